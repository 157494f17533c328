section FRK
variable {l : Launch} {y : fr_M} {I : List Nat} {v : fr_V} {u : fr_U} {Q : Option Value → fr_V → fr_U → Prop} {pc : Nat} {lv : List (Nat × Value)} {st : List Value}
theorem J_ifnull {x : Nat} {off : Int} (d : decode y.2.1 pc = .ok (.ifnull off, 3)) (kk : J l y I v u (pc + 3) lv st Q) : J l y I v u pc lv (.ref x :: st) Q :=
  fun L cA D p e s m args below meth c H locs ls C hP hD hS hl => lv_ifnull C.1 C.2.1 d (kk L cA D p e s m args below meth c H locs ls C hP hD hS hl)
theorem J_ifnullN {off : Int} {tgt : Nat} (d : decode y.2.1 pc = .ok (.ifnull off, 3)) (ht : (pc : Int) + off = (tgt : Int)) (kk : J l y I v u tgt lv st Q) : J l y I v u pc lv (.null :: st) Q :=
  fun L cA D p e s m args below meth c H locs ls C hP hD hS hl => lv_ifnullN C.1 C.2.1 d ht (kk L cA D p e s m args below meth c H locs ls C hP hD hS hl)
theorem J_ifnonnull {x : Nat} {off : Int} {tgt : Nat} (d : decode y.2.1 pc = .ok (.ifnonnull off, 3)) (ht : (pc : Int) + off = (tgt : Int)) (kk : J l y I v u tgt lv st Q) : J l y I v u pc lv (.ref x :: st) Q :=
  fun L cA D p e s m args below meth c H locs ls C hP hD hS hl => lv_ifnonnull C.1 C.2.1 d ht (kk L cA D p e s m args below meth c H locs ls C hP hD hS hl)
theorem J_ifnonnullN {off : Int} (d : decode y.2.1 pc = .ok (.ifnonnull off, 3)) (kk : J l y I v u (pc + 3) lv st Q) : J l y I v u pc lv (.null :: st) Q :=
  fun L cA D p e s m args below meth c H locs ls C hP hD hS hl => lv_ifnonnullN C.1 C.2.1 d (kk L cA D p e s m args below meth c H locs ls C hP hD hS hl)
theorem J_putd {idx ci j k t : Nat} (d : decode y.2.1 pc = .ok (.putfield idx, 3)) (hf : FL y.1.cls idx ci j) (hk : k ∈ I) (hs : (sh k).1 = ci) (h2 : fk ci j = 2) (ht : t < 2 ^ 31) (hfin : ∀ q : vw_C, fr_cls[ci]? = some q → (q.2.1 j).2.2.2 = false) (hn : ∀ a : Nat, narrow (fr_ty ci j) (.ref a) = .ref a) (hfit : ∀ a : Nat, fits (fr_ty ci j) (.ref a) = true) (kk : J l y I (up2 v k j (nI t)) u (pc + 3) lv st Q) : J l y I v u pc lv (.ref t :: .ref k :: st) Q :=
  J_putf (z := nI t) d hf hk hs (fun L => by simp [cv, fv, h2, rq, nI_pos ht, nI_clamp ht, va_rf]) hfin (fun L => hn (L t)) (fun L => hfit (L t)) kk
theorem J_putdN {idx ci j k : Nat} (d : decode y.2.1 pc = .ok (.putfield idx, 3)) (hf : FL y.1.cls idx ci j) (hk : k ∈ I) (hs : (sh k).1 = ci) (h2 : fk ci j = 2) (hfin : ∀ q : vw_C, fr_cls[ci]? = some q → (q.2.1 j).2.2.2 = false) (hn : narrow (fr_ty ci j) .null = .null) (hfit : fits (fr_ty ci j) .null = true) (kk : J l y I (up2 v k j (-1)) u (pc + 3) lv st Q) : J l y I v u pc lv (.null :: .ref k :: st) Q :=
  J_putf (z := (-1)) d hf hk hs (fun L => by simp [cv, fv, h2, rq, va_rf]) hfin (fun L => hn) (fun L => hfit) kk
theorem J_astore_nZ {n : Fin 4} {i : Nat} {lv' : List (Nat × Value)} (d : decode y.2.1 pc = .ok (.astore_n n, 1)) (hi : (n : Nat) = i) (hn : i < y.2.2.1) (h : (i, Value.null) :: lv.filter (fun q => !(q.1 == i) && !(q.1 + 1 == i && q.2.category == 2)) = lv') (k : J l y I v u (pc + 1) lv' st Q) : J l y I v u pc lv (.null :: st) Q := by
  subst h
  exact fun L cA D p e s m args below meth c H locs ls C hP hD hS hl => lv_astore_nN (lv' := (((i, Value.null) :: lv.filter (fun q => !(q.1 == i) && !(q.1 + 1 == i && q.2.category == 2))).map (cvp L))) C.1 C.2.1 d hi hl hn (congrArg (List.cons _) (cvp_filter L (fun a b => !(a == i) && !(a + 1 == i && b == 2)) lv)) (fun ls hl => k L cA D p e s m args below meth c H locs ls C hP hD hS hl)
def wdrole (w : Nat) : Int32 := ([0,0,0,0,1,1,1,1,2,2,2,2,2,3,3] : List Int32).getD w 0
def wdleast (w : Nat) : Int32 := ([0,0,1,0,0,0,2,1,0,0,0,0,0,0,0] : List Int32).getD w 0
def wdmost (w : Nat) : Int32 := ([0,0,9999,200,40,9,99,3,130,3,79,0,0,0,0] : List Int32).getD w 0
def wdslot (w : Nat) : Int32 := ([-1,-1,-1,-1,0,1,2,3,-1,-1,-1,-1,-1,-1,-1] : List Int32).getD w 0
theorem J_gWrole {idx w : Nat} (dd : decode y.2.1 pc = .ok (.getfield idx, 3)) (hw : Cond.fieldLink y.1.cls idx "LifeRents$Word" "role" "I" ∈ gt) (hw9 : w < 15) (kk : J l y I v u (pc + 3) lv (.int (wdrole w) :: st) Q) : J l y I v u pc lv (.ref (3000 + w) :: st) Q :=
  J_getW (q := ("LifeRents$Word", "role", "I", [0,0,0,0,1,1,1,1,2,2,2,2,2,3,3])) dd (by simp [fr_F]) hw hw9 kk
theorem J_gWleast {idx w : Nat} (dd : decode y.2.1 pc = .ok (.getfield idx, 3)) (hw : Cond.fieldLink y.1.cls idx "LifeRents$Word" "least" "I" ∈ gt) (hw9 : w < 15) (kk : J l y I v u (pc + 3) lv (.int (wdleast w) :: st) Q) : J l y I v u pc lv (.ref (3000 + w) :: st) Q :=
  J_getW (q := ("LifeRents$Word", "least", "I", [0,0,1,0,0,0,2,1,0,0,0,0,0,0,0])) dd (by simp [fr_F]) hw hw9 kk
theorem J_gWmost {idx w : Nat} (dd : decode y.2.1 pc = .ok (.getfield idx, 3)) (hw : Cond.fieldLink y.1.cls idx "LifeRents$Word" "most" "I" ∈ gt) (hw9 : w < 15) (kk : J l y I v u (pc + 3) lv (.int (wdmost w) :: st) Q) : J l y I v u pc lv (.ref (3000 + w) :: st) Q :=
  J_getW (q := ("LifeRents$Word", "most", "I", [0,0,9999,200,40,9,99,3,130,3,79,0,0,0,0])) dd (by simp [fr_F]) hw hw9 kk
theorem J_gWslot {idx w : Nat} (dd : decode y.2.1 pc = .ok (.getfield idx, 3)) (hw : Cond.fieldLink y.1.cls idx "LifeRents$Word" "slot" "I" ∈ gt) (hw9 : w < 15) (kk : J l y I v u (pc + 3) lv (.int (wdslot w) :: st) Q) : J l y I v u pc lv (.ref (3000 + w) :: st) Q :=
  J_getW (q := ("LifeRents$Word", "slot", "I", [-1,-1,-1,-1,0,1,2,3,-1,-1,-1,-1,-1,-1,-1])) dd (by simp [fr_F]) hw hw9 kk
end FRK
theorem el_X10_313 : Cond.fieldLink RX10 313 "LifeRents$Word" "MAY" "LLifeRents$Word;" ∈ gt := gt_mem (tb3 _ (List.mem_of_getElem? (i := 93) (by decide +kernel))) rfl
theorem el_X10_319 : Cond.fieldLink RX10 319 "LifeRents$Word" "BAR" "LLifeRents$Word;" ∈ gt := gt_mem (tb3 _ (List.mem_of_getElem? (i := 94) (by decide +kernel))) rfl
theorem el_X10_331 : Cond.fieldLink RX10 331 "LifeRents$Word" "PRICE" "LLifeRents$Word;" ∈ gt := gt_mem (tb3 _ (List.mem_of_getElem? (i := 121) (by decide +kernel))) rfl
theorem el_X10_337 : Cond.fieldLink RX10 337 "LifeRents$Word" "LUMP" "LLifeRents$Word;" ∈ gt := gt_mem (tb3 _ (List.mem_of_getElem? (i := 127) (by decide +kernel))) rfl
theorem el_X4_37 : Cond.fieldLink RX4 37 "LifeRents$Word" "AGE" "LLifeRents$Word;" ∈ gt := gt_mem (tb3 _ (List.mem_of_getElem? (i := 31) (by decide +kernel))) rfl
theorem el_X4_42 : Cond.fieldLink RX4 42 "LifeRents$Word" "HALF" "LLifeRents$Word;" ∈ gt := gt_mem (tb3 _ (List.mem_of_getElem? (i := 33) (by decide +kernel))) rfl
theorem el_X4_45 : Cond.fieldLink RX4 45 "LifeRents$Word" "CLASS" "LLifeRents$Word;" ∈ gt := gt_mem (tb3 _ (List.mem_of_getElem? (i := 35) (by decide +kernel))) rfl
theorem el_X6_48 : Cond.fieldLink RX6 48 "LifeRents$Word" "MAY" "LLifeRents$Word;" ∈ gt := gt_mem (tb2 _ (List.mem_of_getElem? (i := 160) (by decide +kernel))) rfl
theorem el_X6_108 : Cond.fieldLink RX6 108 "LifeRents$Word" "text" "Ljava/lang/String;" ∈ gt := gt_mem (tb7 _ (List.mem_of_getElem? (i := 109) (by decide +kernel))) rfl
theorem el_X6_136 : Cond.fieldLink RX6 136 "LifeRents$Word" "TO" "LLifeRents$Word;" ∈ gt := gt_mem (tb3 _ (List.mem_of_getElem? (i := 46) (by decide +kernel))) rfl
theorem el_X6_145 : Cond.fieldLink RX6 145 "LifeRents$Word" "OR" "LLifeRents$Word;" ∈ gt := gt_mem (tb3 _ (List.mem_of_getElem? (i := 56) (by decide +kernel))) rfl
theorem el_X6_151 : Cond.fieldLink RX6 151 "LifeRents$Word" "role" "I" ∈ gt := gt_mem (tb7 _ (List.mem_of_getElem? (i := 112) (by decide +kernel))) rfl
theorem el_X6_157 : Cond.fieldLink RX6 157 "LifeRents$Word" "slot" "I" ∈ gt := gt_mem (tb7 _ (List.mem_of_getElem? (i := 113) (by decide +kernel))) rfl
theorem el_X6_169 : Cond.fieldLink RX6 169 "LifeRents$Word" "most" "I" ∈ gt := gt_mem (tb7 _ (List.mem_of_getElem? (i := 114) (by decide +kernel))) rfl
theorem el_X6_176 : Cond.fieldLink RX6 176 "LifeRents$Word" "least" "I" ∈ gt := gt_mem (tb7 _ (List.mem_of_getElem? (i := 115) (by decide +kernel))) rfl
theorem el_X6_183 : Cond.fieldLink RX6 183 "LifeRents$Word" "AGE" "LLifeRents$Word;" ∈ gt := gt_mem (tb3 _ (List.mem_of_getElem? (i := 37) (by decide +kernel))) rfl
theorem el_X6_186 : Cond.fieldLink RX6 186 "LifeRents$Word" "HALF" "LLifeRents$Word;" ∈ gt := gt_mem (tb3 _ (List.mem_of_getElem? (i := 38) (by decide +kernel))) rfl
theorem el_X6_189 : Cond.fieldLink RX6 189 "LifeRents$Word" "CLASS" "LLifeRents$Word;" ∈ gt := gt_mem (tb3 _ (List.mem_of_getElem? (i := 39) (by decide +kernel))) rfl
theorem el_X6_192 : Cond.fieldLink RX6 192 "LifeRents$Word" "JOINT" "LLifeRents$Word;" ∈ gt := gt_mem (tb3 _ (List.mem_of_getElem? (i := 40) (by decide +kernel))) rfl
def lnB (ac : Nat) : Nat := shb (ac + 1)
theorem ln_in {I : List Nat} (hI : fr_I I) {ac i : Nat} (hac : ac = 10 ∨ ac = 20) (hi : i < 24) : lnB ac + i ∈ I := by
  have h1 : ∀ i, i < 24 → (400 + i) ∈ fr_st := by decide
  have h2 : ∀ i, i < 24 → (430 + i) ∈ fr_st := by decide
  rcases hac with rfl | rfl
  · exact hI _ (h1 i hi)
  · exact hI _ (h2 i hi)
theorem ln_sh {ac i : Nat} (hac : ac = 10 ∨ ac = 20) (hi : i < 24) : sh (lnB ac + i) = (4, 0) := by
  have h1 : ∀ i, i < 24 → sh (400 + i) = (4, 0) := by decide
  have h2 : ∀ i, i < 24 → sh (430 + i) = (4, 0) := by decide
  rcases hac with rfl | rfl
  · exact h1 i hi
  · exact h2 i hi
theorem ln_lt {ac i : Nat} (hac : ac = 10 ∨ ac = 20) (hi : i < 24) : 400 ≤ lnB ac + i ∧ lnB ac + i < 460 := by
  rcases hac with rfl | rfl
  · show 400 ≤ 400 + i ∧ 400 + i < 460
    omega
  · show 400 ≤ 430 + i ∧ 430 + i < 460
    omega
theorem ru_in {I : List Nat} (hI : fr_I I) {ac : Nat} (h : ac = 10 ∨ ac = 20) : ac + 1 ∈ I := by rcases h with rfl | rfl; exact i11 hI; exact i21 hI
theorem ru_sh {ac : Nat} (h : ac = 10 ∨ ac = 20) : sh (ac + 1) = (23, 24) := by rcases h with rfl | rfl <;> rfl
theorem ru_sr {ac : Nat} (h : ac = 10 ∨ ac = 20) : sref ac 0 = ac + 1 := by rcases h with rfl | rfl <;> rfl
theorem se_in {I : List Nat} (hI : fr_I I) {ac : Nat} (h : ac = 10 ∨ ac = 20) : ac + 3 ∈ I := by rcases h with rfl | rfl; exact i13 hI; exact i23 hI
theorem se_sh {ac : Nat} (h : ac = 10 ∨ ac = 20) : sh (ac + 3) = (20, 4) := by rcases h with rfl | rfl <;> rfl
theorem se_sr {ac : Nat} (h : ac = 10 ∨ ac = 20) : sref ac 2 = ac + 3 := by rcases h with rfl | rfl <;> rfl
/-- the word of the line i of the acts ac -/
def lwf (v : fr_V) (ac i : Nat) : Nat := (v (lnB ac + i) 0).toNatClampNeg - 3000
def lnOK (v : fr_V) (ac m : Nat) : Prop := m ≤ 24 ∧ v ac 1 = nI m ∧ ∀ i, i < m → lwf v ac i < 15 ∧ v (lnB ac + i) 0 = nI (3000 + lwf v ac i)
def oref (b : Nat) : Option Nat → Value
  | none => .null
  | some i => .ref (b + i)
def QO (v : fr_V) (u : fr_U) (x : Value) : Option Value → fr_V → fr_U → Prop := fun r v' u' => r = some x ∧ v' = v ∧ u' = u
def f_begin (v : fr_V) (q : Nat) (w : Nat) : fr_V := up2 (up2 (up2 (up2 (up2 (up2 (up2 (up2 v q 0 (nI (3000 + w))) q 1 0) q 2 (-1)) q 3 (-1)) q 4 0) q 5 (-1)) q 6 (-1)) q 7 0
theorem k_X4_begin {l : Launch} {I : List Nat} (hI : fr_I I) (v : fr_V) (u : fr_U) (q : Nat) (w : Nat) (hq : q ∈ I) (hs : (sh q).1 = 4) (hw : w < 15) : Con l mX4_begin I v u [.ref q, .ref (3000 + w)] (QN u (fun a => a = f_begin v q w)) := by
  refine Con.of (by decide) (Nat.le_of_ble_eq_true rfl) ?_
  show J l mX4_begin I v u 0 [(0, .ref q), (1, .ref (3000 + w))] [] _
  refine J_aload_n dX4_begin_0 rfl 0 rfl ?_
  refine J_aload_n dX4_begin_1 rfl 1 rfl ?_
  refine J_putd (ci := 4) (j := 0) (t := 3000 + w) dX4_begin_2 fl_X4_9 hq hs rfl (by omega) (fun q h => by cases h; rfl) (fun a => rfl) (fun a => rfl) ?_
  refine J_aload_n dX4_begin_5 rfl 0 rfl ?_
  refine J_iconst (x := 0) dX4_begin_6 (by decide) ?_
  refine J_puti (ci := 4) (j := 1) dX4_begin_7 fl_X4_15 hq hs rfl (fun q h => by cases h; rfl) rfl ?_
  refine J_aload_n dX4_begin_10 rfl 0 rfl ?_
  refine J_iconst (x := (-1)) dX4_begin_11 (by decide) ?_
  refine J_puti (ci := 4) (j := 2) dX4_begin_12 fl_X4_19 hq hs rfl (fun q h => by cases h; rfl) rfl ?_
  refine J_aload_n dX4_begin_15 rfl 0 rfl ?_
  refine J_iconst (x := (-1)) dX4_begin_16 (by decide) ?_
  refine J_puti (ci := 4) (j := 3) dX4_begin_17 fl_X4_22 hq hs rfl (fun q h => by cases h; rfl) rfl ?_
  refine J_aload_n dX4_begin_20 rfl 0 rfl ?_
  refine J_iconst (x := 0) dX4_begin_21 (by decide) ?_
  refine J_puti (ci := 4) (j := 4) dX4_begin_22 fl_X4_25 hq hs rfl (fun q h => by cases h; rfl) rfl ?_
  refine J_aload_n dX4_begin_25 rfl 0 rfl ?_
  refine J_iconst (x := (-1)) dX4_begin_26 (by decide) ?_
  refine J_puti (ci := 4) (j := 5) dX4_begin_27 fl_X4_28 hq hs rfl (fun q h => by cases h; rfl) rfl ?_
  refine J_aload_n dX4_begin_30 rfl 0 rfl ?_
  refine J_iconst (x := (-1)) dX4_begin_31 (by decide) ?_
  refine J_puti (ci := 4) (j := 6) dX4_begin_32 fl_X4_31 hq hs rfl (fun q h => by cases h; rfl) rfl ?_
  refine J_aload_n dX4_begin_35 rfl 0 rfl ?_
  refine J_iconst (x := 0) dX4_begin_36 (by decide) ?_
  refine J_puti (ci := 4) (j := 7) dX4_begin_37 fl_X4_34 hq hs rfl (fun q h => by cases h; rfl) rfl ?_
  exact J_vret dX4_begin_40 rfl ⟨rfl, rfl, rfl⟩
def f_hasTold (v : fr_V) (q : Nat) (w : Nat) : Int32 := if w = 8 then (if (v q 2) = (-1) then 0 else 1) else if w = 10 then (if (v q 5) = (-1) then 0 else 1) else if w = 9 then (if (v q 4) = 0 then 0 else 1) else if (v q 7) = 0 then 0 else 1
theorem k_X4_hasTold {l : Launch} {I : List Nat} (hI : fr_I I) (v : fr_V) (u : fr_U) (q : Nat) (w : Nat) (hq : q ∈ I) (hs : (sh q).1 = 4) (hw : w < 15) : Con l mX4_hasTold I v u [.ref q, .ref (3000 + w)] (QI v u (fun a => a = f_hasTold v q w)) := by
  refine Con.of (by decide) (Nat.le_of_ble_eq_true rfl) ?_
  show J l mX4_hasTold I v u 0 [(0, .ref q), (1, .ref (3000 + w))] [] _
  refine J_aload_n dX4_hasTold_0 rfl 1 rfl ?_
  refine J_gets (x := .ref (3000 + 8)) dX4_hasTold_1 el_X4_37 (x_word 8 (by decide)) ?_
  refine J_acmpW_ne (i := w) (j := 8) (tgt := 21) dX4_hasTold_4 (by decide) (by omega) (by omega) (fun c1 => ?_) (fun c1 => ?_)
  · refine J_aload_n dX4_hasTold_21 rfl 1 rfl ?_
    refine J_gets (x := .ref (3000 + 10)) dX4_hasTold_22 el_X4_42 (x_word 10 (by decide)) ?_
    refine J_acmpW_ne (i := w) (j := 10) (tgt := 42) dX4_hasTold_25 (by decide) (by omega) (by omega) (fun c2 => ?_) (fun c2 => ?_)
    · refine J_aload_n dX4_hasTold_42 rfl 1 rfl ?_
      refine J_gets (x := .ref (3000 + 9)) dX4_hasTold_43 el_X4_45 (x_word 9 (by decide)) ?_
      refine J_acmpW_ne (i := w) (j := 9) (tgt := 64) dX4_hasTold_46 (by decide) (by omega) (by omega) (fun c3 => ?_) (fun c3 => ?_)
      · refine J_aload_n dX4_hasTold_64 rfl 0 rfl ?_
        refine J_gete (ci := 4) (j := 7) (x := v q 7) dX4_hasTold_65 fl_X4_34 hq hs rfl rfl ?_
        refine J_if_eq (tgt := 75) dX4_hasTold_68 (by decide) (fun c4 => ?_) (fun c4 => ?_)
        · refine J_iconst (x := 0) dX4_hasTold_75 (by decide) ?_
          exact J_zret dX4_hasTold_76 rfl (by decide) ⟨_, rfl, rfl, rfl, by unfold f_hasTold; rw [if_neg c1, if_neg c2, if_neg c3, if_pos c4]⟩
        · refine J_iconst (x := 1) dX4_hasTold_71 (by decide) ?_
          refine J_goto (tgt := 76) dX4_hasTold_72 (by decide) ?_
          exact J_zret dX4_hasTold_76 rfl (by decide) ⟨_, rfl, rfl, rfl, by unfold f_hasTold; rw [if_neg c1, if_neg c2, if_neg c3, if_neg c4]⟩
      · refine J_aload_n dX4_hasTold_49 rfl 0 rfl ?_
        refine J_gete (ci := 4) (j := 4) (x := v q 4) dX4_hasTold_50 fl_X4_25 hq hs rfl rfl ?_
        refine J_if_eq (tgt := 60) dX4_hasTold_53 (by decide) (fun c5 => ?_) (fun c5 => ?_)
        · refine J_iconst (x := 0) dX4_hasTold_60 (by decide) ?_
          refine J_goto (tgt := 76) dX4_hasTold_61 (by decide) ?_
          exact J_zret dX4_hasTold_76 rfl (by decide) ⟨_, rfl, rfl, rfl, by unfold f_hasTold; rw [if_neg c1, if_neg c2, if_pos c3, if_pos c5]⟩
        · refine J_iconst (x := 1) dX4_hasTold_56 (by decide) ?_
          refine J_goto (tgt := 76) dX4_hasTold_57 (by decide) ?_
          exact J_zret dX4_hasTold_76 rfl (by decide) ⟨_, rfl, rfl, rfl, by unfold f_hasTold; rw [if_neg c1, if_neg c2, if_pos c3, if_neg c5]⟩
    · refine J_aload_n dX4_hasTold_28 rfl 0 rfl ?_
      refine J_gete (ci := 4) (j := 5) (x := v q 5) dX4_hasTold_29 fl_X4_28 hq hs rfl rfl ?_
      refine J_iconst (x := (-1)) dX4_hasTold_32 (by decide) ?_
      refine J_icmp_eq (tgt := 40) dX4_hasTold_33 (by decide) (fun c6 => ?_) (fun c6 => ?_)
      · refine J_iconst (x := 0) dX4_hasTold_40 (by decide) ?_
        exact J_zret dX4_hasTold_41 rfl (by decide) ⟨_, rfl, rfl, rfl, by unfold f_hasTold; rw [if_neg c1, if_pos c2, if_pos c6]⟩
      · refine J_iconst (x := 1) dX4_hasTold_36 (by decide) ?_
        refine J_goto (tgt := 41) dX4_hasTold_37 (by decide) ?_
        exact J_zret dX4_hasTold_41 rfl (by decide) ⟨_, rfl, rfl, rfl, by unfold f_hasTold; rw [if_neg c1, if_pos c2, if_neg c6]⟩
  · refine J_aload_n dX4_hasTold_7 rfl 0 rfl ?_
    refine J_gete (ci := 4) (j := 2) (x := v q 2) dX4_hasTold_8 fl_X4_19 hq hs rfl rfl ?_
    refine J_iconst (x := (-1)) dX4_hasTold_11 (by decide) ?_
    refine J_icmp_eq (tgt := 19) dX4_hasTold_12 (by decide) (fun c7 => ?_) (fun c7 => ?_)
    · refine J_iconst (x := 0) dX4_hasTold_19 (by decide) ?_
      exact J_zret dX4_hasTold_20 rfl (by decide) ⟨_, rfl, rfl, rfl, by unfold f_hasTold; rw [if_pos c1, if_pos c7]⟩
    · refine J_iconst (x := 1) dX4_hasTold_15 (by decide) ?_
      refine J_goto (tgt := 20) dX4_hasTold_16 (by decide) ?_
      exact J_zret dX4_hasTold_20 rfl (by decide) ⟨_, rfl, rfl, rfl, by unfold f_hasTold; rw [if_pos c1, if_neg c7]⟩
def f_fits (v : fr_V) (q : Nat) (x1 : Int32) (x2 : Int32) (x3 : Int32) (x4 : Int32) : Int32 := if (v q 2) = (-1) then (if (v q 5) = (-1) then (if (v q 4) = 0 then (if (v q 7) = 0 then 1 else if (v q 7) = x4 then 1 else 0) else if ((v q 4) &&& (1 <<< (x2 &&& 31))) = 0 then 0 else if (v q 7) = 0 then 1 else if (v q 7) = x4 then 1 else 0) else if x3 < (v q 5) then 0 else if x3 ≤ (v q 6) then (if (v q 4) = 0 then (if (v q 7) = 0 then 1 else if (v q 7) = x4 then 1 else 0) else if ((v q 4) &&& (1 <<< (x2 &&& 31))) = 0 then 0 else if (v q 7) = 0 then 1 else if (v q 7) = x4 then 1 else 0) else 0) else if x1 < (v q 2) then 0 else if x1 ≤ (v q 3) then (if (v q 5) = (-1) then (if (v q 4) = 0 then (if (v q 7) = 0 then 1 else if (v q 7) = x4 then 1 else 0) else if ((v q 4) &&& (1 <<< (x2 &&& 31))) = 0 then 0 else if (v q 7) = 0 then 1 else if (v q 7) = x4 then 1 else 0) else if x3 < (v q 5) then 0 else if x3 ≤ (v q 6) then (if (v q 4) = 0 then (if (v q 7) = 0 then 1 else if (v q 7) = x4 then 1 else 0) else if ((v q 4) &&& (1 <<< (x2 &&& 31))) = 0 then 0 else if (v q 7) = 0 then 1 else if (v q 7) = x4 then 1 else 0) else 0) else 0
theorem k_X4_fits {l : Launch} {I : List Nat} (hI : fr_I I) (v : fr_V) (u : fr_U) (q : Nat) (x1 : Int32) (x2 : Int32) (x3 : Int32) (x4 : Int32) (hq : q ∈ I) (hs : (sh q).1 = 4) : Con l mX4_fits I v u [.ref q, .int x1, .int x2, .int x3, .int x4] (QI v u (fun a => a = f_fits v q x1 x2 x3 x4)) := by
  refine Con.of (by decide) (Nat.le_of_ble_eq_true rfl) ?_
  show J l mX4_fits I v u 0 [(0, .ref q), (1, .int x1), (2, .int x2), (3, .int x3), (4, .int x4)] [] _
  refine J_aload_n dX4_fits_0 rfl 0 rfl ?_
  refine J_gete (ci := 4) (j := 2) (x := v q 2) dX4_fits_1 fl_X4_19 hq hs rfl rfl ?_
  refine J_iconst (x := (-1)) dX4_fits_4 (by decide) ?_
  refine J_icmp_eq (tgt := 26) dX4_fits_5 (by decide) (fun c1 => ?_) (fun c1 => ?_)
  · refine J_aload_n dX4_fits_26 rfl 0 rfl ?_
    refine J_gete (ci := 4) (j := 5) (x := v q 5) dX4_fits_27 fl_X4_28 hq hs rfl rfl ?_
    refine J_iconst (x := (-1)) dX4_fits_30 (by decide) ?_
    refine J_icmp_eq (tgt := 52) dX4_fits_31 (by decide) (fun c2 => ?_) (fun c2 => ?_)
    · refine J_aload_n dX4_fits_52 rfl 0 rfl ?_
      refine J_gete (ci := 4) (j := 4) (x := v q 4) dX4_fits_53 fl_X4_25 hq hs rfl rfl ?_
      refine J_if_eq (tgt := 72) dX4_fits_56 (by decide) (fun c3 => ?_) (fun c3 => ?_)
      · refine J_aload_n dX4_fits_72 rfl 0 rfl ?_
        refine J_gete (ci := 4) (j := 7) (x := v q 7) dX4_fits_73 fl_X4_34 hq hs rfl rfl ?_
        refine J_if_eq (tgt := 88) dX4_fits_76 (by decide) (fun c4 => ?_) (fun c4 => ?_)
        · refine J_iconst (x := 1) dX4_fits_88 (by decide) ?_
          refine J_goto (tgt := 93) dX4_fits_89 (by decide) ?_
          exact J_zret dX4_fits_93 rfl (by decide) ⟨_, rfl, rfl, rfl, by unfold f_fits; rw [if_pos c1, if_pos c2, if_pos c3, if_pos c4]⟩
        · refine J_aload_n dX4_fits_79 rfl 0 rfl ?_
          refine J_gete (ci := 4) (j := 7) (x := v q 7) dX4_fits_80 fl_X4_34 hq hs rfl rfl ?_
          refine J_iload dX4_fits_83 4 rfl ?_
          refine J_icmp_ne (tgt := 92) dX4_fits_85 (by decide) (fun c5 => ?_) (fun c5 => ?_)
          · refine J_iconst (x := 0) dX4_fits_92 (by decide) ?_
            exact J_zret dX4_fits_93 rfl (by decide) ⟨_, rfl, rfl, rfl, by unfold f_fits; rw [if_pos c1, if_pos c2, if_pos c3, if_neg c4, if_neg c5]⟩
          · refine J_iconst (x := 1) dX4_fits_88 (by decide) ?_
            refine J_goto (tgt := 93) dX4_fits_89 (by decide) ?_
            exact J_zret dX4_fits_93 rfl (by decide) ⟨_, rfl, rfl, rfl, by unfold f_fits; rw [if_pos c1, if_pos c2, if_pos c3, if_neg c4, if_pos c5]⟩
      · refine J_aload_n dX4_fits_59 rfl 0 rfl ?_
        refine J_gete (ci := 4) (j := 4) (x := v q 4) dX4_fits_60 fl_X4_25 hq hs rfl rfl ?_
        refine J_iconst (x := 1) dX4_fits_63 (by decide) ?_
        refine J_iload_n dX4_fits_64 rfl 2 rfl ?_
        refine J_ishl dX4_fits_65 ?_
        refine J_iand dX4_fits_66 ?_
        refine J_if_ne (tgt := 72) dX4_fits_67 (by decide) (fun c6 => ?_) (fun c6 => ?_)
        · refine J_aload_n dX4_fits_72 rfl 0 rfl ?_
          refine J_gete (ci := 4) (j := 7) (x := v q 7) dX4_fits_73 fl_X4_34 hq hs rfl rfl ?_
          refine J_if_eq (tgt := 88) dX4_fits_76 (by decide) (fun c7 => ?_) (fun c7 => ?_)
          · refine J_iconst (x := 1) dX4_fits_88 (by decide) ?_
            refine J_goto (tgt := 93) dX4_fits_89 (by decide) ?_
            exact J_zret dX4_fits_93 rfl (by decide) ⟨_, rfl, rfl, rfl, by unfold f_fits; rw [if_pos c1, if_pos c2, if_neg c3, if_neg c6, if_pos c7]⟩
          · refine J_aload_n dX4_fits_79 rfl 0 rfl ?_
            refine J_gete (ci := 4) (j := 7) (x := v q 7) dX4_fits_80 fl_X4_34 hq hs rfl rfl ?_
            refine J_iload dX4_fits_83 4 rfl ?_
            refine J_icmp_ne (tgt := 92) dX4_fits_85 (by decide) (fun c8 => ?_) (fun c8 => ?_)
            · refine J_iconst (x := 0) dX4_fits_92 (by decide) ?_
              exact J_zret dX4_fits_93 rfl (by decide) ⟨_, rfl, rfl, rfl, by unfold f_fits; rw [if_pos c1, if_pos c2, if_neg c3, if_neg c6, if_neg c7, if_neg c8]⟩
            · refine J_iconst (x := 1) dX4_fits_88 (by decide) ?_
              refine J_goto (tgt := 93) dX4_fits_89 (by decide) ?_
              exact J_zret dX4_fits_93 rfl (by decide) ⟨_, rfl, rfl, rfl, by unfold f_fits; rw [if_pos c1, if_pos c2, if_neg c3, if_neg c6, if_neg c7, if_pos c8]⟩
        · refine J_iconst (x := 0) dX4_fits_70 (by decide) ?_
          exact J_zret dX4_fits_71 rfl (by decide) ⟨_, rfl, rfl, rfl, by unfold f_fits; rw [if_pos c1, if_pos c2, if_neg c3, if_pos c6]⟩
    · refine J_iload_n dX4_fits_34 rfl 3 rfl ?_
      refine J_aload_n dX4_fits_35 rfl 0 rfl ?_
      refine J_gete (ci := 4) (j := 5) (x := v q 5) dX4_fits_36 fl_X4_28 hq hs rfl rfl ?_
      refine J_icmp_lt (tgt := 50) dX4_fits_39 (by decide) (fun c9 => ?_) (fun c9 => ?_)
      · refine J_iconst (x := 0) dX4_fits_50 (by decide) ?_
        exact J_zret dX4_fits_51 rfl (by decide) ⟨_, rfl, rfl, rfl, by unfold f_fits; rw [if_pos c1, if_neg c2, if_pos c9]⟩
      · refine J_iload_n dX4_fits_42 rfl 3 rfl ?_
        refine J_aload_n dX4_fits_43 rfl 0 rfl ?_
        refine J_gete (ci := 4) (j := 6) (x := v q 6) dX4_fits_44 fl_X4_31 hq hs rfl rfl ?_
        refine J_icmp_le (tgt := 52) dX4_fits_47 (by decide) (fun c10 => ?_) (fun c10 => ?_)
        · refine J_aload_n dX4_fits_52 rfl 0 rfl ?_
          refine J_gete (ci := 4) (j := 4) (x := v q 4) dX4_fits_53 fl_X4_25 hq hs rfl rfl ?_
          refine J_if_eq (tgt := 72) dX4_fits_56 (by decide) (fun c11 => ?_) (fun c11 => ?_)
          · refine J_aload_n dX4_fits_72 rfl 0 rfl ?_
            refine J_gete (ci := 4) (j := 7) (x := v q 7) dX4_fits_73 fl_X4_34 hq hs rfl rfl ?_
            refine J_if_eq (tgt := 88) dX4_fits_76 (by decide) (fun c12 => ?_) (fun c12 => ?_)
            · refine J_iconst (x := 1) dX4_fits_88 (by decide) ?_
              refine J_goto (tgt := 93) dX4_fits_89 (by decide) ?_
              exact J_zret dX4_fits_93 rfl (by decide) ⟨_, rfl, rfl, rfl, by unfold f_fits; rw [if_pos c1, if_neg c2, if_neg c9, if_pos c10, if_pos c11, if_pos c12]⟩
            · refine J_aload_n dX4_fits_79 rfl 0 rfl ?_
              refine J_gete (ci := 4) (j := 7) (x := v q 7) dX4_fits_80 fl_X4_34 hq hs rfl rfl ?_
              refine J_iload dX4_fits_83 4 rfl ?_
              refine J_icmp_ne (tgt := 92) dX4_fits_85 (by decide) (fun c13 => ?_) (fun c13 => ?_)
              · refine J_iconst (x := 0) dX4_fits_92 (by decide) ?_
                exact J_zret dX4_fits_93 rfl (by decide) ⟨_, rfl, rfl, rfl, by unfold f_fits; rw [if_pos c1, if_neg c2, if_neg c9, if_pos c10, if_pos c11, if_neg c12, if_neg c13]⟩
              · refine J_iconst (x := 1) dX4_fits_88 (by decide) ?_
                refine J_goto (tgt := 93) dX4_fits_89 (by decide) ?_
                exact J_zret dX4_fits_93 rfl (by decide) ⟨_, rfl, rfl, rfl, by unfold f_fits; rw [if_pos c1, if_neg c2, if_neg c9, if_pos c10, if_pos c11, if_neg c12, if_pos c13]⟩
          · refine J_aload_n dX4_fits_59 rfl 0 rfl ?_
            refine J_gete (ci := 4) (j := 4) (x := v q 4) dX4_fits_60 fl_X4_25 hq hs rfl rfl ?_
            refine J_iconst (x := 1) dX4_fits_63 (by decide) ?_
            refine J_iload_n dX4_fits_64 rfl 2 rfl ?_
            refine J_ishl dX4_fits_65 ?_
            refine J_iand dX4_fits_66 ?_
            refine J_if_ne (tgt := 72) dX4_fits_67 (by decide) (fun c14 => ?_) (fun c14 => ?_)
            · refine J_aload_n dX4_fits_72 rfl 0 rfl ?_
              refine J_gete (ci := 4) (j := 7) (x := v q 7) dX4_fits_73 fl_X4_34 hq hs rfl rfl ?_
              refine J_if_eq (tgt := 88) dX4_fits_76 (by decide) (fun c15 => ?_) (fun c15 => ?_)
              · refine J_iconst (x := 1) dX4_fits_88 (by decide) ?_
                refine J_goto (tgt := 93) dX4_fits_89 (by decide) ?_
                exact J_zret dX4_fits_93 rfl (by decide) ⟨_, rfl, rfl, rfl, by unfold f_fits; rw [if_pos c1, if_neg c2, if_neg c9, if_pos c10, if_neg c11, if_neg c14, if_pos c15]⟩
              · refine J_aload_n dX4_fits_79 rfl 0 rfl ?_
                refine J_gete (ci := 4) (j := 7) (x := v q 7) dX4_fits_80 fl_X4_34 hq hs rfl rfl ?_
                refine J_iload dX4_fits_83 4 rfl ?_
                refine J_icmp_ne (tgt := 92) dX4_fits_85 (by decide) (fun c16 => ?_) (fun c16 => ?_)
                · refine J_iconst (x := 0) dX4_fits_92 (by decide) ?_
                  exact J_zret dX4_fits_93 rfl (by decide) ⟨_, rfl, rfl, rfl, by unfold f_fits; rw [if_pos c1, if_neg c2, if_neg c9, if_pos c10, if_neg c11, if_neg c14, if_neg c15, if_neg c16]⟩
                · refine J_iconst (x := 1) dX4_fits_88 (by decide) ?_
                  refine J_goto (tgt := 93) dX4_fits_89 (by decide) ?_
                  exact J_zret dX4_fits_93 rfl (by decide) ⟨_, rfl, rfl, rfl, by unfold f_fits; rw [if_pos c1, if_neg c2, if_neg c9, if_pos c10, if_neg c11, if_neg c14, if_neg c15, if_pos c16]⟩
            · refine J_iconst (x := 0) dX4_fits_70 (by decide) ?_
              exact J_zret dX4_fits_71 rfl (by decide) ⟨_, rfl, rfl, rfl, by unfold f_fits; rw [if_pos c1, if_neg c2, if_neg c9, if_pos c10, if_neg c11, if_pos c14]⟩
        · refine J_iconst (x := 0) dX4_fits_50 (by decide) ?_
          exact J_zret dX4_fits_51 rfl (by decide) ⟨_, rfl, rfl, rfl, by unfold f_fits; rw [if_pos c1, if_neg c2, if_neg c9, if_neg c10]⟩
  · refine J_iload_n dX4_fits_8 rfl 1 rfl ?_
    refine J_aload_n dX4_fits_9 rfl 0 rfl ?_
    refine J_gete (ci := 4) (j := 2) (x := v q 2) dX4_fits_10 fl_X4_19 hq hs rfl rfl ?_
    refine J_icmp_lt (tgt := 24) dX4_fits_13 (by decide) (fun c17 => ?_) (fun c17 => ?_)
    · refine J_iconst (x := 0) dX4_fits_24 (by decide) ?_
      exact J_zret dX4_fits_25 rfl (by decide) ⟨_, rfl, rfl, rfl, by unfold f_fits; rw [if_neg c1, if_pos c17]⟩
    · refine J_iload_n dX4_fits_16 rfl 1 rfl ?_
      refine J_aload_n dX4_fits_17 rfl 0 rfl ?_
      refine J_gete (ci := 4) (j := 3) (x := v q 3) dX4_fits_18 fl_X4_22 hq hs rfl rfl ?_
      refine J_icmp_le (tgt := 26) dX4_fits_21 (by decide) (fun c18 => ?_) (fun c18 => ?_)
      · refine J_aload_n dX4_fits_26 rfl 0 rfl ?_
        refine J_gete (ci := 4) (j := 5) (x := v q 5) dX4_fits_27 fl_X4_28 hq hs rfl rfl ?_
        refine J_iconst (x := (-1)) dX4_fits_30 (by decide) ?_
        refine J_icmp_eq (tgt := 52) dX4_fits_31 (by decide) (fun c19 => ?_) (fun c19 => ?_)
        · refine J_aload_n dX4_fits_52 rfl 0 rfl ?_
          refine J_gete (ci := 4) (j := 4) (x := v q 4) dX4_fits_53 fl_X4_25 hq hs rfl rfl ?_
          refine J_if_eq (tgt := 72) dX4_fits_56 (by decide) (fun c20 => ?_) (fun c20 => ?_)
          · refine J_aload_n dX4_fits_72 rfl 0 rfl ?_
            refine J_gete (ci := 4) (j := 7) (x := v q 7) dX4_fits_73 fl_X4_34 hq hs rfl rfl ?_
            refine J_if_eq (tgt := 88) dX4_fits_76 (by decide) (fun c21 => ?_) (fun c21 => ?_)
            · refine J_iconst (x := 1) dX4_fits_88 (by decide) ?_
              refine J_goto (tgt := 93) dX4_fits_89 (by decide) ?_
              exact J_zret dX4_fits_93 rfl (by decide) ⟨_, rfl, rfl, rfl, by unfold f_fits; rw [if_neg c1, if_neg c17, if_pos c18, if_pos c19, if_pos c20, if_pos c21]⟩
            · refine J_aload_n dX4_fits_79 rfl 0 rfl ?_
              refine J_gete (ci := 4) (j := 7) (x := v q 7) dX4_fits_80 fl_X4_34 hq hs rfl rfl ?_
              refine J_iload dX4_fits_83 4 rfl ?_
              refine J_icmp_ne (tgt := 92) dX4_fits_85 (by decide) (fun c22 => ?_) (fun c22 => ?_)
              · refine J_iconst (x := 0) dX4_fits_92 (by decide) ?_
                exact J_zret dX4_fits_93 rfl (by decide) ⟨_, rfl, rfl, rfl, by unfold f_fits; rw [if_neg c1, if_neg c17, if_pos c18, if_pos c19, if_pos c20, if_neg c21, if_neg c22]⟩
              · refine J_iconst (x := 1) dX4_fits_88 (by decide) ?_
                refine J_goto (tgt := 93) dX4_fits_89 (by decide) ?_
                exact J_zret dX4_fits_93 rfl (by decide) ⟨_, rfl, rfl, rfl, by unfold f_fits; rw [if_neg c1, if_neg c17, if_pos c18, if_pos c19, if_pos c20, if_neg c21, if_pos c22]⟩
          · refine J_aload_n dX4_fits_59 rfl 0 rfl ?_
            refine J_gete (ci := 4) (j := 4) (x := v q 4) dX4_fits_60 fl_X4_25 hq hs rfl rfl ?_
            refine J_iconst (x := 1) dX4_fits_63 (by decide) ?_
            refine J_iload_n dX4_fits_64 rfl 2 rfl ?_
            refine J_ishl dX4_fits_65 ?_
            refine J_iand dX4_fits_66 ?_
            refine J_if_ne (tgt := 72) dX4_fits_67 (by decide) (fun c23 => ?_) (fun c23 => ?_)
            · refine J_aload_n dX4_fits_72 rfl 0 rfl ?_
              refine J_gete (ci := 4) (j := 7) (x := v q 7) dX4_fits_73 fl_X4_34 hq hs rfl rfl ?_
              refine J_if_eq (tgt := 88) dX4_fits_76 (by decide) (fun c24 => ?_) (fun c24 => ?_)
              · refine J_iconst (x := 1) dX4_fits_88 (by decide) ?_
                refine J_goto (tgt := 93) dX4_fits_89 (by decide) ?_
                exact J_zret dX4_fits_93 rfl (by decide) ⟨_, rfl, rfl, rfl, by unfold f_fits; rw [if_neg c1, if_neg c17, if_pos c18, if_pos c19, if_neg c20, if_neg c23, if_pos c24]⟩
              · refine J_aload_n dX4_fits_79 rfl 0 rfl ?_
                refine J_gete (ci := 4) (j := 7) (x := v q 7) dX4_fits_80 fl_X4_34 hq hs rfl rfl ?_
                refine J_iload dX4_fits_83 4 rfl ?_
                refine J_icmp_ne (tgt := 92) dX4_fits_85 (by decide) (fun c25 => ?_) (fun c25 => ?_)
                · refine J_iconst (x := 0) dX4_fits_92 (by decide) ?_
                  exact J_zret dX4_fits_93 rfl (by decide) ⟨_, rfl, rfl, rfl, by unfold f_fits; rw [if_neg c1, if_neg c17, if_pos c18, if_pos c19, if_neg c20, if_neg c23, if_neg c24, if_neg c25]⟩
                · refine J_iconst (x := 1) dX4_fits_88 (by decide) ?_
                  refine J_goto (tgt := 93) dX4_fits_89 (by decide) ?_
                  exact J_zret dX4_fits_93 rfl (by decide) ⟨_, rfl, rfl, rfl, by unfold f_fits; rw [if_neg c1, if_neg c17, if_pos c18, if_pos c19, if_neg c20, if_neg c23, if_neg c24, if_pos c25]⟩
            · refine J_iconst (x := 0) dX4_fits_70 (by decide) ?_
              exact J_zret dX4_fits_71 rfl (by decide) ⟨_, rfl, rfl, rfl, by unfold f_fits; rw [if_neg c1, if_neg c17, if_pos c18, if_pos c19, if_neg c20, if_pos c23]⟩
        · refine J_iload_n dX4_fits_34 rfl 3 rfl ?_
          refine J_aload_n dX4_fits_35 rfl 0 rfl ?_
          refine J_gete (ci := 4) (j := 5) (x := v q 5) dX4_fits_36 fl_X4_28 hq hs rfl rfl ?_
          refine J_icmp_lt (tgt := 50) dX4_fits_39 (by decide) (fun c26 => ?_) (fun c26 => ?_)
          · refine J_iconst (x := 0) dX4_fits_50 (by decide) ?_
            exact J_zret dX4_fits_51 rfl (by decide) ⟨_, rfl, rfl, rfl, by unfold f_fits; rw [if_neg c1, if_neg c17, if_pos c18, if_neg c19, if_pos c26]⟩
          · refine J_iload_n dX4_fits_42 rfl 3 rfl ?_
            refine J_aload_n dX4_fits_43 rfl 0 rfl ?_
            refine J_gete (ci := 4) (j := 6) (x := v q 6) dX4_fits_44 fl_X4_31 hq hs rfl rfl ?_
            refine J_icmp_le (tgt := 52) dX4_fits_47 (by decide) (fun c27 => ?_) (fun c27 => ?_)
            · refine J_aload_n dX4_fits_52 rfl 0 rfl ?_
              refine J_gete (ci := 4) (j := 4) (x := v q 4) dX4_fits_53 fl_X4_25 hq hs rfl rfl ?_
              refine J_if_eq (tgt := 72) dX4_fits_56 (by decide) (fun c28 => ?_) (fun c28 => ?_)
              · refine J_aload_n dX4_fits_72 rfl 0 rfl ?_
                refine J_gete (ci := 4) (j := 7) (x := v q 7) dX4_fits_73 fl_X4_34 hq hs rfl rfl ?_
                refine J_if_eq (tgt := 88) dX4_fits_76 (by decide) (fun c29 => ?_) (fun c29 => ?_)
                · refine J_iconst (x := 1) dX4_fits_88 (by decide) ?_
                  refine J_goto (tgt := 93) dX4_fits_89 (by decide) ?_
                  exact J_zret dX4_fits_93 rfl (by decide) ⟨_, rfl, rfl, rfl, by unfold f_fits; rw [if_neg c1, if_neg c17, if_pos c18, if_neg c19, if_neg c26, if_pos c27, if_pos c28, if_pos c29]⟩
                · refine J_aload_n dX4_fits_79 rfl 0 rfl ?_
                  refine J_gete (ci := 4) (j := 7) (x := v q 7) dX4_fits_80 fl_X4_34 hq hs rfl rfl ?_
                  refine J_iload dX4_fits_83 4 rfl ?_
                  refine J_icmp_ne (tgt := 92) dX4_fits_85 (by decide) (fun c30 => ?_) (fun c30 => ?_)
                  · refine J_iconst (x := 0) dX4_fits_92 (by decide) ?_
                    exact J_zret dX4_fits_93 rfl (by decide) ⟨_, rfl, rfl, rfl, by unfold f_fits; rw [if_neg c1, if_neg c17, if_pos c18, if_neg c19, if_neg c26, if_pos c27, if_pos c28, if_neg c29, if_neg c30]⟩
                  · refine J_iconst (x := 1) dX4_fits_88 (by decide) ?_
                    refine J_goto (tgt := 93) dX4_fits_89 (by decide) ?_
                    exact J_zret dX4_fits_93 rfl (by decide) ⟨_, rfl, rfl, rfl, by unfold f_fits; rw [if_neg c1, if_neg c17, if_pos c18, if_neg c19, if_neg c26, if_pos c27, if_pos c28, if_neg c29, if_pos c30]⟩
              · refine J_aload_n dX4_fits_59 rfl 0 rfl ?_
                refine J_gete (ci := 4) (j := 4) (x := v q 4) dX4_fits_60 fl_X4_25 hq hs rfl rfl ?_
                refine J_iconst (x := 1) dX4_fits_63 (by decide) ?_
                refine J_iload_n dX4_fits_64 rfl 2 rfl ?_
                refine J_ishl dX4_fits_65 ?_
                refine J_iand dX4_fits_66 ?_
                refine J_if_ne (tgt := 72) dX4_fits_67 (by decide) (fun c31 => ?_) (fun c31 => ?_)
                · refine J_aload_n dX4_fits_72 rfl 0 rfl ?_
                  refine J_gete (ci := 4) (j := 7) (x := v q 7) dX4_fits_73 fl_X4_34 hq hs rfl rfl ?_
                  refine J_if_eq (tgt := 88) dX4_fits_76 (by decide) (fun c32 => ?_) (fun c32 => ?_)
                  · refine J_iconst (x := 1) dX4_fits_88 (by decide) ?_
                    refine J_goto (tgt := 93) dX4_fits_89 (by decide) ?_
                    exact J_zret dX4_fits_93 rfl (by decide) ⟨_, rfl, rfl, rfl, by unfold f_fits; rw [if_neg c1, if_neg c17, if_pos c18, if_neg c19, if_neg c26, if_pos c27, if_neg c28, if_neg c31, if_pos c32]⟩
                  · refine J_aload_n dX4_fits_79 rfl 0 rfl ?_
                    refine J_gete (ci := 4) (j := 7) (x := v q 7) dX4_fits_80 fl_X4_34 hq hs rfl rfl ?_
                    refine J_iload dX4_fits_83 4 rfl ?_
                    refine J_icmp_ne (tgt := 92) dX4_fits_85 (by decide) (fun c33 => ?_) (fun c33 => ?_)
                    · refine J_iconst (x := 0) dX4_fits_92 (by decide) ?_
                      exact J_zret dX4_fits_93 rfl (by decide) ⟨_, rfl, rfl, rfl, by unfold f_fits; rw [if_neg c1, if_neg c17, if_pos c18, if_neg c19, if_neg c26, if_pos c27, if_neg c28, if_neg c31, if_neg c32, if_neg c33]⟩
                    · refine J_iconst (x := 1) dX4_fits_88 (by decide) ?_
                      refine J_goto (tgt := 93) dX4_fits_89 (by decide) ?_
                      exact J_zret dX4_fits_93 rfl (by decide) ⟨_, rfl, rfl, rfl, by unfold f_fits; rw [if_neg c1, if_neg c17, if_pos c18, if_neg c19, if_neg c26, if_pos c27, if_neg c28, if_neg c31, if_neg c32, if_pos c33]⟩
                · refine J_iconst (x := 0) dX4_fits_70 (by decide) ?_
                  exact J_zret dX4_fits_71 rfl (by decide) ⟨_, rfl, rfl, rfl, by unfold f_fits; rw [if_neg c1, if_neg c17, if_pos c18, if_neg c19, if_neg c26, if_pos c27, if_neg c28, if_pos c31]⟩
            · refine J_iconst (x := 0) dX4_fits_50 (by decide) ?_
              exact J_zret dX4_fits_51 rfl (by decide) ⟨_, rfl, rfl, rfl, by unfold f_fits; rw [if_neg c1, if_neg c17, if_pos c18, if_neg c19, if_neg c26, if_neg c27]⟩
      · refine J_iconst (x := 0) dX4_fits_24 (by decide) ?_
        exact J_zret dX4_fits_25 rfl (by decide) ⟨_, rfl, rfl, rfl, by unfold f_fits; rw [if_neg c1, if_neg c17, if_neg c18]⟩
def ltF (v : fr_V) (ac so ot : Nat) (x3 x4 x5 x6 : Int32) : Nat → Option Nat
  | 0 => none
  | s + 1 => if lwf v ac s = so then (if f_fits v (lnB ac + s) x3 x4 x5 x6 = 0 then ltF v ac so ot x3 x4 x5 x6 s else some s) else if lwf v ac s = ot then (if f_fits v (lnB ac + s) x3 x4 x5 x6 = 0 then ltF v ac so ot x3 x4 x5 x6 s else some s) else ltF v ac so ot x3 x4 x5 x6 s
theorem ltF_s (v : fr_V) (ac so ot : Nat) (x3 x4 x5 x6 : Int32) (s : Nat) : ltF v ac so ot x3 x4 x5 x6 (s + 1) = if lwf v ac s = so then (if f_fits v (lnB ac + s) x3 x4 x5 x6 = 0 then ltF v ac so ot x3 x4 x5 x6 s else some s) else if lwf v ac s = ot then (if f_fits v (lnB ac + s) x3 x4 x5 x6 = 0 then ltF v ac so ot x3 x4 x5 x6 s else some s) else ltF v ac so ot x3 x4 x5 x6 s := rfl
theorem lt_L {l : Launch} {I : List Nat} (hI : fr_I I) (v : fr_V) (u : fr_U) (ac m so ot : Nat) (x3 x4 x5 x6 : Int32) (hac : ac = 10 ∨ ac = 20) (hv : lnOK v ac m) (hso : so < 15) (hot : ot < 15) : ∀ (t : Nat) (ht : t ≤ m), J l mX0_latest I v u 8 [(0, .ref ac), (1, .ref (3000 + so)), (2, .ref (3000 + ot)), (3, .int x3), (4, .int x4), (5, .int x5), (6, .int x6), (7, .int (nI t - 1))] [] (QO v u (oref (lnB ac) (ltF v ac so ot x3 x4 x5 x6 t))) := by
  intro t
  induction t with
  | zero =>
    intro ht
    refine J_iload dX0_latest_8 7 rfl ?_
    refine J_if_lt (tgt := 64) dX0_latest_10 (by decide) (fun c1 => ?_) (fun c1 => absurd dn_0 c1)
    refine J_null dX0_latest_64 ?_
    exact J_aret dX0_latest_65 rfl (Or.inl rfl) ⟨rfl, rfl, rfl⟩
  | succ s ih =>
    intro ht
    have hs24 : s < 24 := by have := hv.1; omega
    obtain ⟨hw1, hw2⟩ := hv.2.2 s (by omega)
    rw [nI_pred]
    refine J_iload dX0_latest_8 7 rfl ?_
    refine J_if_lt (tgt := 64) dX0_latest_10 (by decide) (fun c1 => absurd c1 (nI_pos (by omega))) (fun c1 => ?_)
    refine J_aload_n dX0_latest_13 rfl 0 rfl ?_
    refine J_getr (ci := 0) (j := 0) (t := ac + 1) dX0_latest_14 fl_X0_11 (i_ac hI hac) (s_ac hac) rfl (ru_sr hac) ?_
    refine J_iload dX0_latest_17 7 rfl ?_
    refine J_aldN (t := lnB ac + s) dX0_latest_19 (ru_in hI hac) (ru_sh hac) (vp_in_nI (by omega) (by omega)) (by rw [nI_clamp (by omega)]; rfl) ?_
    refine J_astore (lv' := [(8, .ref (lnB ac + s)), (0, .ref ac), (1, .ref (3000 + so)), (2, .ref (3000 + ot)), (3, .int x3), (4, .int x4), (5, .int x5), (6, .int x6), (7, .int (nI s))]) dX0_latest_20 (by decide) rfl ?_
    refine J_aload dX0_latest_22 0 rfl ?_
    refine J_getd (ci := 4) (j := 0) (t := 3000 + lwf v ac s) dX0_latest_24 fl_X0_38 (ln_in hI hac hs24) (by rw [ln_sh hac hs24]) rfl (by rw [show v (lnB ac + s) 0 = nI (3000 + lwf v ac s) from hw2]; exact nI_pos (by omega)) (by rw [show v (lnB ac + s) 0 = nI (3000 + lwf v ac s) from hw2]; exact nI_clamp (by omega)) ?_
    refine J_aload_n dX0_latest_27 rfl 2 rfl ?_
    refine J_acmpW_eq (i := lwf v ac s) (j := so) (tgt := 40) dX0_latest_28 (by decide) (by omega) (by omega) (fun c2 => ?_) (fun c2 => ?_)
    · refine J_aload dX0_latest_40 0 rfl ?_
      refine J_iload_n dX0_latest_42 rfl 4 rfl ?_
      refine J_iload dX0_latest_43 5 rfl ?_
      refine J_iload dX0_latest_45 6 rfl ?_
      refine J_iload dX0_latest_47 7 rfl ?_
      refine J_eVI (z := mX4_fits) (As := [.int x3, .int x4, .int x5, .int x6]) (rest := []) (ci := 4) (x := f_fits v (lnB ac + s) x3 x4 x5 x6) dX0_latest_49 ml_X0_42 ok_X4_fits iv_X4_fits (by decide) (ln_in hI hac hs24) (by rw [ln_sh hac hs24]) rfl rfl rfl (Nat.le_of_ble_eq_true rfl) (k_X4_fits hI v u (lnB ac + s) x3 x4 x5 x6 (ln_in hI hac hs24) (by rw [ln_sh hac hs24])) ?_
      refine J_if_eq (tgt := 58) dX0_latest_52 (by decide) (fun c3 => ?_) (fun c3 => ?_)
      · refine J_iinc (q := 8) (z := nI s - 1) (lv' := [(7, .int (nI s - 1)), (8, .ref (lnB ac + s)), (0, .ref ac), (1, .ref (3000 + so)), (2, .ref (3000 + ot)), (3, .int x3), (4, .int x4), (5, .int x5), (6, .int x6)]) dX0_latest_58 rfl (dn_1 s) (by decide) rfl ?_
        refine J_goto (tgt := 8) dX0_latest_61 (by decide) ?_
        refine J_lv [2, 3, 4, 5, 6, 7, 8, 0] rfl ?_
        rw [ltF_s, if_pos c2, if_pos c3]
        exact ih (by omega)
      · refine J_aload dX0_latest_55 0 rfl ?_
        exact J_aret dX0_latest_57 rfl (Or.inr ⟨_, rfl⟩) ⟨by rw [ltF_s, if_pos c2, if_neg c3]; rfl, rfl, rfl⟩
    · refine J_aload dX0_latest_31 0 rfl ?_
      refine J_getd (ci := 4) (j := 0) (t := 3000 + lwf v ac s) dX0_latest_33 fl_X0_38 (ln_in hI hac hs24) (by rw [ln_sh hac hs24]) rfl (by rw [show v (lnB ac + s) 0 = nI (3000 + lwf v ac s) from hw2]; exact nI_pos (by omega)) (by rw [show v (lnB ac + s) 0 = nI (3000 + lwf v ac s) from hw2]; exact nI_clamp (by omega)) ?_
      refine J_aload_n dX0_latest_36 rfl 3 rfl ?_
      refine J_acmpW_ne (i := lwf v ac s) (j := ot) (tgt := 58) dX0_latest_37 (by decide) (by omega) (by omega) (fun c4 => ?_) (fun c4 => ?_)
      · refine J_iinc (q := 8) (z := nI s - 1) (lv' := [(7, .int (nI s - 1)), (8, .ref (lnB ac + s)), (0, .ref ac), (1, .ref (3000 + so)), (2, .ref (3000 + ot)), (3, .int x3), (4, .int x4), (5, .int x5), (6, .int x6)]) dX0_latest_58 rfl (dn_1 s) (by decide) rfl ?_
        refine J_goto (tgt := 8) dX0_latest_61 (by decide) ?_
        refine J_lv [2, 3, 4, 5, 6, 7, 8, 0] rfl ?_
        rw [ltF_s, if_neg c2, if_neg c4]
        exact ih (by omega)
      · refine J_aload dX0_latest_40 0 rfl ?_
        refine J_iload_n dX0_latest_42 rfl 4 rfl ?_
        refine J_iload dX0_latest_43 5 rfl ?_
        refine J_iload dX0_latest_45 6 rfl ?_
        refine J_iload dX0_latest_47 7 rfl ?_
        refine J_eVI (z := mX4_fits) (As := [.int x3, .int x4, .int x5, .int x6]) (rest := []) (ci := 4) (x := f_fits v (lnB ac + s) x3 x4 x5 x6) dX0_latest_49 ml_X0_42 ok_X4_fits iv_X4_fits (by decide) (ln_in hI hac hs24) (by rw [ln_sh hac hs24]) rfl rfl rfl (Nat.le_of_ble_eq_true rfl) (k_X4_fits hI v u (lnB ac + s) x3 x4 x5 x6 (ln_in hI hac hs24) (by rw [ln_sh hac hs24])) ?_
        refine J_if_eq (tgt := 58) dX0_latest_52 (by decide) (fun c5 => ?_) (fun c5 => ?_)
        · refine J_iinc (q := 8) (z := nI s - 1) (lv' := [(7, .int (nI s - 1)), (8, .ref (lnB ac + s)), (0, .ref ac), (1, .ref (3000 + so)), (2, .ref (3000 + ot)), (3, .int x3), (4, .int x4), (5, .int x5), (6, .int x6)]) dX0_latest_58 rfl (dn_1 s) (by decide) rfl ?_
          refine J_goto (tgt := 8) dX0_latest_61 (by decide) ?_
          refine J_lv [2, 3, 4, 5, 6, 7, 8, 0] rfl ?_
          rw [ltF_s, if_neg c2, if_pos c4, if_pos c5]
          exact ih (by omega)
        · refine J_aload dX0_latest_55 0 rfl ?_
          exact J_aret dX0_latest_57 rfl (Or.inr ⟨_, rfl⟩) ⟨by rw [ltF_s, if_neg c2, if_pos c4, if_neg c5]; rfl, rfl, rfl⟩
theorem k_X0_latest {l : Launch} {I : List Nat} (hI : fr_I I) (v : fr_V) (u : fr_U) (ac m so ot : Nat) (x3 x4 x5 x6 : Int32) (hac : ac = 10 ∨ ac = 20) (hv : lnOK v ac m) (hso : so < 15) (hot : ot < 15) : Con l mX0_latest I v u [.ref ac, .ref (3000 + so), .ref (3000 + ot), .int x3, .int x4, .int x5, .int x6] (QO v u (oref (lnB ac) (ltF v ac so ot x3 x4 x5 x6 m))) := by
  refine Con.of (by decide) (Nat.le_of_ble_eq_true rfl) ?_
  show J l mX0_latest I v u 0 [(0, .ref ac), (1, .ref (3000 + so)), (2, .ref (3000 + ot)), (3, .int x3), (4, .int x4), (5, .int x5), (6, .int x6)] [] _
  refine J_aload_n dX0_latest_0 rfl 0 rfl ?_
  refine J_gete (ci := 0) (j := 1) (x := nI m) dX0_latest_1 fl_X0_28 (i_ac hI hac) (s_ac hac) rfl hv.2.1 ?_
  refine J_iconst (x := 1) dX0_latest_4 (by decide) ?_
  refine J_isub dX0_latest_5 ?_
  refine J_istore (lv' := [(7, .int ((nI m) - 1)), (0, .ref ac), (1, .ref (3000 + so)), (2, .ref (3000 + ot)), (3, .int x3), (4, .int x4), (5, .int x5), (6, .int x6)]) dX0_latest_6 (by decide) rfl ?_
  refine J_lv [1, 2, 3, 4, 5, 6, 7, 0] rfl ?_
  exact lt_L hI v u ac m so ot x3 x4 x5 x6 hac hv hso hot m (Nat.le_refl _)
theorem J_callO {l : Launch} {y : fr_M} {I : List Nat} {v : fr_V} {u : fr_U} {Q : Option Value → fr_V → fr_U → Prop} {pc : Nat} {lv : List (Nat × Value)} {st : List Value} {z : fr_M} {idx o ci n : Nat} {As rest : List Value} {x : Value} (d : decode y.2.1 pc = .ok (.invokevirtual idx, 3)) (hw : Cond.methodLink y.1.cls idx z.1 ∈ gt) (hz : MOK z n) (hv : Cond.instanceMethod z.1 ∈ gt ∧ Cond.selects z.1.cls z.1 z.1 ∈ gt) (hR : z.2.2.2.2.1 + 1 ≤ y.2.2.2.2.1 ∧ 8 + (z.2.2.1 + 11) + z.2.2.2.2.2 ≤ y.2.2.2.2.2) (ho : o ∈ I) (hs : (sh o).1 = ci) (hc : (fr_cls[ci]?).map (fun q => q.1) = some z.1.cls) (hst : st = As.reverse ++ .ref o :: rest) (hn : As.length = n) (hsum : (rest.map fun x => x.category).sum ≤ 8) (hC : Con l z I v u (.ref o :: As) (QO v u x)) (k : J l y I v u (pc + 3) lv (x :: rest) Q) : J l y I v u pc lv st Q := by
  refine J_callV d hw hz hv hR ho hs hc hst hn hsum hC (fun r v' u' hq => ?_)
  obtain ⟨rfl, rfl, rfl⟩ := hq
  exact k
def f_ruling (v : fr_V) (ac m so ot : Nat) (x3 x4 : Int32) : Option Nat := ltF v ac so ot (f_X5_ageIn v (f_X5_younger v x3 x4 (v 1000 3)) (v 1000 3)) (v 502 (f_X5_younger v x3 x4 (v 1000 3)).toNatClampNeg) (v 1000 3) (if x4 = (-1) then 1 else 2) m
theorem yg_in {v : fr_V} {x1 x2 x3 : Int32} (h1 : vp_in x1 12) (h2 : ¬ x2 = (-1) → vp_in x2 12) : vp_in (f_X5_younger v x1 x2 x3) 12 := by
  unfold f_X5_younger
  split
  · exact h1
  · split
    · exact h1
    · exact h2 (by assumption)
theorem oref_or (b : Nat) (o : Option Nat) : oref b o = .null ∨ ∃ a, oref b o = .ref a := by cases o; exact Or.inl rfl; exact Or.inr ⟨_, rfl⟩
theorem k_X10_ruling {l : Launch} {I : List Nat} (hI : fr_I I) (v : fr_V) (u : fr_U) (ac m so ot : Nat) (x3 x4 : Int32) (hac : ac = 10 ∨ ac = 20) (ha : v 1000 1 = nI ac) (hv : lnOK v ac m) (hso : so < 15) (hot : ot < 15) (h3 : vp_in x3 12) (h4 : ¬ x4 = (-1) → vp_in x4 12) : Con l mX10_ruling I v u [.ref 1000, .ref (3000 + so), .ref (3000 + ot), .int x3, .int x4] (QO v u (oref (lnB ac) (f_ruling v ac m so ot x3 x4))) := by
  refine Con.of (by decide) (Nat.le_of_ble_eq_true rfl) ?_
  show J l mX10_ruling I v u 0 [(0, .ref 1000), (1, .ref (3000 + so)), (2, .ref (3000 + ot)), (3, .int x3), (4, .int x4)] [] _
  refine J_aload_n dX10_ruling_0 rfl 0 rfl ?_
  refine J_getr (ci := 10) (j := 4) (t := 500) dX10_ruling_1 fl_X10_29 (i1000 hI) rfl rfl rfl ?_
  refine J_iload_n dX10_ruling_4 rfl 3 rfl ?_
  refine J_iload dX10_ruling_5 4 rfl ?_
  refine J_aload_n dX10_ruling_7 rfl 0 rfl ?_
  refine J_gete (ci := 10) (j := 3) (x := v 1000 3) dX10_ruling_8 fl_X10_92 (i1000 hI) rfl rfl rfl ?_
  refine J_eVI (z := mX5_younger) (As := [.int x3, .int x4, .int (v 1000 3)]) (rest := []) (ci := 5) (x := f_X5_younger v x3 x4 (v 1000 3)) dX10_ruling_11 ml_X10_303 ok_X5_younger iv_X5_younger (by decide) (i500 hI) rfl rfl rfl rfl (Nat.le_of_ble_eq_true rfl) (k_X5_younger hI v u x3 x4 (v 1000 3) h3 h4) ?_
  refine J_istore (lv' := [(5, .int (f_X5_younger v x3 x4 (v 1000 3))), (0, .ref 1000), (1, .ref (3000 + so)), (2, .ref (3000 + ot)), (3, .int x3), (4, .int x4)]) dX10_ruling_14 (by decide) rfl ?_
  refine J_iload dX10_ruling_16 5 rfl ?_
  refine J_iconst (x := (-1)) dX10_ruling_18 (by decide) ?_
  refine J_icmp_ne (tgt := 26) dX10_ruling_19 (by decide) (fun c1 => ?_) (fun c1 => ?_)
  · refine J_iconst (x := 2) dX10_ruling_26 (by decide) ?_
    refine J_istore (lv' := [(6, .int 2), (5, .int (f_X5_younger v x3 x4 (v 1000 3))), (0, .ref 1000), (1, .ref (3000 + so)), (2, .ref (3000 + ot)), (3, .int x3), (4, .int x4)]) dX10_ruling_27 (by decide) rfl ?_
    refine J_aload_n dX10_ruling_29 rfl 2 rfl ?_
    refine J_getd (ci := 10) (j := 1) (t := ac) dX10_ruling_30 fl_X10_19 (i1000 hI) rfl rfl (by rw [show v 1000 1 = nI ac from ha]; exact nI_pos (by omega)) (by rw [show v 1000 1 = nI ac from ha]; exact nI_clamp (by omega)) ?_
    refine J_aload_n dX10_ruling_33 rfl 3 rfl ?_
    refine J_aload_n dX10_ruling_34 rfl 4 rfl ?_
    refine J_aload_n dX10_ruling_35 rfl 2 rfl ?_
    refine J_getr (ci := 10) (j := 4) (t := 500) dX10_ruling_36 fl_X10_29 (i1000 hI) rfl rfl rfl ?_
    refine J_iload dX10_ruling_39 1 rfl ?_
    refine J_aload_n dX10_ruling_41 rfl 2 rfl ?_
    refine J_gete (ci := 10) (j := 3) (x := v 1000 3) dX10_ruling_42 fl_X10_92 (i1000 hI) rfl rfl rfl ?_
    refine J_eVI (z := mX5_ageIn) (As := [.int (f_X5_younger v x3 x4 (v 1000 3)), .int (v 1000 3)]) (rest := [.ref (3000 + ot), .ref (3000 + so), .ref ac]) (ci := 5) (x := f_X5_ageIn v (f_X5_younger v x3 x4 (v 1000 3)) (v 1000 3)) dX10_ruling_45 ml_X10_292 ok_X5_ageIn iv_X5_ageIn (by decide) (i500 hI) rfl rfl rfl rfl (Nat.le_of_ble_eq_true rfl) (k_X5_ageIn hI v u (f_X5_younger v x3 x4 (v 1000 3)) (v 1000 3) (yg_in h3 h4)) ?_
    refine J_aload_n dX10_ruling_48 rfl 2 rfl ?_
    refine J_getr (ci := 10) (j := 4) (t := 500) dX10_ruling_49 fl_X10_29 (i1000 hI) rfl rfl rfl ?_
    refine J_getr (ci := 5) (j := 1) (t := 502) dX10_ruling_52 fl_X10_306 (i500 hI) rfl rfl rfl ?_
    refine J_iload dX10_ruling_55 1 rfl ?_
    refine J_iale (x := v 502 ((f_X5_younger v x3 x4 (v 1000 3)).toNatClampNeg)) dX10_ruling_57 (i502 hI) rfl (yg_in h3 h4) rfl ?_
    refine J_aload_n dX10_ruling_58 rfl 2 rfl ?_
    refine J_gete (ci := 10) (j := 3) (x := v 1000 3) dX10_ruling_59 fl_X10_92 (i1000 hI) rfl rfl rfl ?_
    refine J_iload dX10_ruling_62 0 rfl ?_
    refine J_callO (z := mX0_latest) (As := [.ref (3000 + so), .ref (3000 + ot), .int (f_X5_ageIn v (f_X5_younger v x3 x4 (v 1000 3)) (v 1000 3)), .int (v 502 ((f_X5_younger v x3 x4 (v 1000 3)).toNatClampNeg)), .int (v 1000 3), .int 2]) (rest := []) (ci := 0) (x := oref (lnB ac) (f_ruling v ac m so ot x3 x4)) dX10_ruling_64 ml_X10_309 ok_X0_latest iv_X0_latest (by decide) (i_ac hI hac) (s_ac hac) rfl rfl rfl (Nat.le_of_ble_eq_true rfl) (by unfold f_ruling; rw [if_neg c1]; exact k_X0_latest hI v u ac m so ot _ _ _ _ hac hv hso hot) ?_
    exact J_aret dX10_ruling_67 rfl (oref_or _ _) ⟨rfl, rfl, rfl⟩
  · refine J_iconst (x := 1) dX10_ruling_22 (by decide) ?_
    refine J_goto (tgt := 27) dX10_ruling_23 (by decide) ?_
    refine J_istore (lv' := [(6, .int 1), (5, .int (f_X5_younger v x3 x4 (v 1000 3))), (0, .ref 1000), (1, .ref (3000 + so)), (2, .ref (3000 + ot)), (3, .int x3), (4, .int x4)]) dX10_ruling_27 (by decide) rfl ?_
    refine J_aload_n dX10_ruling_29 rfl 2 rfl ?_
    refine J_getd (ci := 10) (j := 1) (t := ac) dX10_ruling_30 fl_X10_19 (i1000 hI) rfl rfl (by rw [show v 1000 1 = nI ac from ha]; exact nI_pos (by omega)) (by rw [show v 1000 1 = nI ac from ha]; exact nI_clamp (by omega)) ?_
    refine J_aload_n dX10_ruling_33 rfl 3 rfl ?_
    refine J_aload_n dX10_ruling_34 rfl 4 rfl ?_
    refine J_aload_n dX10_ruling_35 rfl 2 rfl ?_
    refine J_getr (ci := 10) (j := 4) (t := 500) dX10_ruling_36 fl_X10_29 (i1000 hI) rfl rfl rfl ?_
    refine J_iload dX10_ruling_39 1 rfl ?_
    refine J_aload_n dX10_ruling_41 rfl 2 rfl ?_
    refine J_gete (ci := 10) (j := 3) (x := v 1000 3) dX10_ruling_42 fl_X10_92 (i1000 hI) rfl rfl rfl ?_
    refine J_eVI (z := mX5_ageIn) (As := [.int (f_X5_younger v x3 x4 (v 1000 3)), .int (v 1000 3)]) (rest := [.ref (3000 + ot), .ref (3000 + so), .ref ac]) (ci := 5) (x := f_X5_ageIn v (f_X5_younger v x3 x4 (v 1000 3)) (v 1000 3)) dX10_ruling_45 ml_X10_292 ok_X5_ageIn iv_X5_ageIn (by decide) (i500 hI) rfl rfl rfl rfl (Nat.le_of_ble_eq_true rfl) (k_X5_ageIn hI v u (f_X5_younger v x3 x4 (v 1000 3)) (v 1000 3) (yg_in h3 h4)) ?_
    refine J_aload_n dX10_ruling_48 rfl 2 rfl ?_
    refine J_getr (ci := 10) (j := 4) (t := 500) dX10_ruling_49 fl_X10_29 (i1000 hI) rfl rfl rfl ?_
    refine J_getr (ci := 5) (j := 1) (t := 502) dX10_ruling_52 fl_X10_306 (i500 hI) rfl rfl rfl ?_
    refine J_iload dX10_ruling_55 1 rfl ?_
    refine J_iale (x := v 502 ((f_X5_younger v x3 x4 (v 1000 3)).toNatClampNeg)) dX10_ruling_57 (i502 hI) rfl (yg_in h3 h4) rfl ?_
    refine J_aload_n dX10_ruling_58 rfl 2 rfl ?_
    refine J_gete (ci := 10) (j := 3) (x := v 1000 3) dX10_ruling_59 fl_X10_92 (i1000 hI) rfl rfl rfl ?_
    refine J_iload dX10_ruling_62 0 rfl ?_
    refine J_callO (z := mX0_latest) (As := [.ref (3000 + so), .ref (3000 + ot), .int (f_X5_ageIn v (f_X5_younger v x3 x4 (v 1000 3)) (v 1000 3)), .int (v 502 ((f_X5_younger v x3 x4 (v 1000 3)).toNatClampNeg)), .int (v 1000 3), .int 1]) (rest := []) (ci := 0) (x := oref (lnB ac) (f_ruling v ac m so ot x3 x4)) dX10_ruling_64 ml_X10_309 ok_X0_latest iv_X0_latest (by decide) (i_ac hI hac) (s_ac hac) rfl rfl rfl (Nat.le_of_ble_eq_true rfl) (by unfold f_ruling; rw [if_pos c1]; exact k_X0_latest hI v u ac m so ot _ _ _ _ hac hv hso hot) ?_
    exact J_aret dX10_ruling_67 rfl (oref_or _ _) ⟨rfl, rfl, rfl⟩
theorem ltF_lt {v : fr_V} {ac so ot : Nat} {x3 x4 x5 x6 : Int32} : ∀ m i, ltF v ac so ot x3 x4 x5 x6 m = some i → i < m := by
  intro m
  induction m with
  | zero => intro i h; cases h
  | succ m ih =>
    intro i h
    rw [ltF_s] at h
    have k := ih i
    split at h
    · split at h
      · have := k h; omega
      · cases h; omega
    · split at h
      · split at h
        · have := k h; omega
        · cases h; omega
      · have := k h; omega
theorem rul_lt {v : fr_V} {ac m so ot i : Nat} {x3 x4 : Int32} (h : f_ruling v ac m so ot x3 x4 = some i) : i < m := ltF_lt m i h
def f_may (v : fr_V) (ac m : Nat) (x1 x2 : Int32) : Int32 := match f_ruling v ac m 0 1 x1 x2 with
  | none => 1
  | some i => if lwf v ac i = 0 then 1 else 0
theorem k_X10_mayBeNamed {l : Launch} {I : List Nat} (hI : fr_I I) (v : fr_V) (u : fr_U) (ac m : Nat) (x1 x2 : Int32) (hac : ac = 10 ∨ ac = 20) (ha : v 1000 1 = nI ac) (hv : lnOK v ac m) (h1 : vp_in x1 12) (h2 : ¬ x2 = (-1) → vp_in x2 12) : Con l mX10_mayBeNamed I v u [.ref 1000, .int x1, .int x2] (QI v u (fun a => a = f_may v ac m x1 x2)) := by
  refine Con.of (by decide) (Nat.le_of_ble_eq_true rfl) ?_
  show J l mX10_mayBeNamed I v u 0 [(0, .ref 1000), (1, .int x1), (2, .int x2)] [] _
  refine J_aload_n dX10_mayBeNamed_0 rfl 0 rfl ?_
  refine J_gets (x := .ref (3000 + 0)) dX10_mayBeNamed_1 el_X10_313 (x_word 0 (by decide)) ?_
  refine J_gets (x := .ref (3000 + 1)) dX10_mayBeNamed_4 el_X10_319 (x_word 1 (by decide)) ?_
  refine J_iload_n dX10_mayBeNamed_7 rfl 1 rfl ?_
  refine J_iload_n dX10_mayBeNamed_8 rfl 2 rfl ?_
  refine J_callO (z := mX10_ruling) (As := [.ref (3000 + 0), .ref (3000 + 1), .int x1, .int x2]) (rest := []) (ci := 10) (x := oref (lnB ac) (f_ruling v ac m 0 1 x1 x2)) dX10_mayBeNamed_9 ml_X10_322 ok_X10_ruling iv_X10_ruling (by decide) (i1000 hI) rfl rfl rfl rfl (Nat.le_of_ble_eq_true rfl) (k_X10_ruling hI v u ac m 0 1 x1 x2 hac ha hv (by omega) (by omega) h1 h2) ?_
  generalize hr : f_ruling v ac m 0 1 x1 x2 = r
  cases r with
  | none =>
    show J l mX10_mayBeNamed I v u 12 [(0, .ref 1000), (1, .int x1), (2, .int x2)] [.null] _
    refine J_astore_nZ (lv' := [(3, .null), (0, .ref 1000), (1, .int x1), (2, .int x2)]) dX10_mayBeNamed_12 rfl (by decide) rfl ?_
    refine J_aload_nN dX10_mayBeNamed_13 rfl 0 rfl ?_
    refine J_ifnullN (tgt := 27) dX10_mayBeNamed_14 (by decide) ?_
    refine J_iconst (x := 1) dX10_mayBeNamed_27 (by decide) ?_
    refine J_goto (tgt := 32) dX10_mayBeNamed_28 (by decide) ?_
    exact J_zret dX10_mayBeNamed_32 rfl (by decide) ⟨_, rfl, rfl, rfl, by unfold f_may; rw [hr]⟩
  | some i =>
    have hi := rul_lt hr
    have hs24 : i < 24 := by have := hv.1; omega
    obtain ⟨hw1, hw2⟩ := hv.2.2 i hi
    show J l mX10_mayBeNamed I v u 12 [(0, .ref 1000), (1, .int x1), (2, .int x2)] [.ref (lnB ac + i)] _
    refine J_astore_n (lv' := [(3, .ref (lnB ac + i)), (0, .ref 1000), (1, .int x1), (2, .int x2)]) dX10_mayBeNamed_12 rfl (by decide) rfl ?_
    refine J_aload_n dX10_mayBeNamed_13 rfl 0 rfl ?_
    refine J_ifnull dX10_mayBeNamed_14 ?_
    refine J_aload_n dX10_mayBeNamed_17 rfl 0 rfl ?_
    refine J_getd (ci := 4) (j := 0) (t := 3000 + lwf v ac i) dX10_mayBeNamed_18 fl_X10_326 (ln_in hI hac hs24) (by rw [ln_sh hac hs24]) rfl (by rw [show v (lnB ac + i) 0 = nI (3000 + lwf v ac i) from hw2]; exact nI_pos (by omega)) (by rw [show v (lnB ac + i) 0 = nI (3000 + lwf v ac i) from hw2]; exact nI_clamp (by omega)) ?_
    refine J_gets (x := .ref (3000 + 0)) dX10_mayBeNamed_21 el_X10_313 (x_word 0 (by decide)) ?_
    refine J_acmpW_ne (i := lwf v ac i) (j := 0) (tgt := 31) dX10_mayBeNamed_24 (by decide) (by omega) (by omega) (fun c51 => ?_) (fun c51 => ?_)
    · refine J_iconst (x := 0) dX10_mayBeNamed_31 (by decide) ?_
      exact J_zret dX10_mayBeNamed_32 rfl (by decide) ⟨_, rfl, rfl, rfl, by unfold f_may; rw [hr]; exact (if_neg c51).symm⟩
    · refine J_iconst (x := 1) dX10_mayBeNamed_27 (by decide) ?_
      refine J_goto (tgt := 32) dX10_mayBeNamed_28 (by decide) ?_
      exact J_zret dX10_mayBeNamed_32 rfl (by decide) ⟨_, rfl, rfl, rfl, by unfold f_may; rw [hr]; exact (if_pos c51).symm⟩
def f_price (v : fr_V) (ac m : Nat) (x1 x2 : Int32) : Int32 := match f_ruling v ac m 2 2 x1 x2 with
  | none => 10
  | some i => v (lnB ac + i) 1
theorem k_X10_priceOn {l : Launch} {I : List Nat} (hI : fr_I I) (v : fr_V) (u : fr_U) (ac m : Nat) (x1 x2 : Int32) (hac : ac = 10 ∨ ac = 20) (ha : v 1000 1 = nI ac) (hv : lnOK v ac m) (h1 : vp_in x1 12) (h2 : ¬ x2 = (-1) → vp_in x2 12) : Con l mX10_priceOn I v u [.ref 1000, .int x1, .int x2] (QI v u (fun a => a = f_price v ac m x1 x2)) := by
  refine Con.of (by decide) (Nat.le_of_ble_eq_true rfl) ?_
  show J l mX10_priceOn I v u 0 [(0, .ref 1000), (1, .int x1), (2, .int x2)] [] _
  refine J_aload_n dX10_priceOn_0 rfl 0 rfl ?_
  refine J_gets (x := .ref (3000 + 2)) dX10_priceOn_1 el_X10_331 (x_word 2 (by decide)) ?_
  refine J_gets (x := .ref (3000 + 2)) dX10_priceOn_4 el_X10_331 (x_word 2 (by decide)) ?_
  refine J_iload_n dX10_priceOn_7 rfl 1 rfl ?_
  refine J_iload_n dX10_priceOn_8 rfl 2 rfl ?_
  refine J_callO (z := mX10_ruling) (As := [.ref (3000 + 2), .ref (3000 + 2), .int x1, .int x2]) (rest := []) (ci := 10) (x := oref (lnB ac) (f_ruling v ac m 2 2 x1 x2)) dX10_priceOn_9 ml_X10_322 ok_X10_ruling iv_X10_ruling (by decide) (i1000 hI) rfl rfl rfl rfl (Nat.le_of_ble_eq_true rfl) (k_X10_ruling hI v u ac m 2 2 x1 x2 hac ha hv (by omega) (by omega) h1 h2) ?_
  generalize hr : f_ruling v ac m 2 2 x1 x2 = r
  cases r with
  | none =>
    show J l mX10_priceOn I v u 12 [(0, .ref 1000), (1, .int x1), (2, .int x2)] [.null] _
    refine J_astore_nZ (lv' := [(3, .null), (0, .ref 1000), (1, .int x1), (2, .int x2)]) dX10_priceOn_12 rfl (by decide) rfl ?_
    refine J_aload_nN dX10_priceOn_13 rfl 0 rfl ?_
    refine J_ifnonnullN dX10_priceOn_14 ?_
    refine J_bipush (x := 10) dX10_priceOn_17 (by decide) ?_
    refine J_goto (tgt := 26) dX10_priceOn_19 (by decide) ?_
    exact J_iret dX10_priceOn_26 rfl ⟨_, rfl, rfl, rfl, by unfold f_price; rw [hr]⟩
  | some i =>
    have hi := rul_lt hr
    have hs24 : i < 24 := by have := hv.1; omega
    obtain ⟨hw1, hw2⟩ := hv.2.2 i hi
    show J l mX10_priceOn I v u 12 [(0, .ref 1000), (1, .int x1), (2, .int x2)] [.ref (lnB ac + i)] _
    refine J_astore_n (lv' := [(3, .ref (lnB ac + i)), (0, .ref 1000), (1, .int x1), (2, .int x2)]) dX10_priceOn_12 rfl (by decide) rfl ?_
    refine J_aload_n dX10_priceOn_13 rfl 0 rfl ?_
    refine J_ifnonnull (tgt := 22) dX10_priceOn_14 (by decide) ?_
    refine J_aload_n dX10_priceOn_22 rfl 0 rfl ?_
    refine J_gete (ci := 4) (j := 1) (x := v (lnB ac + i) 1) dX10_priceOn_23 fl_X10_334 (ln_in hI hac hs24) (by rw [ln_sh hac hs24]) rfl rfl ?_
    exact J_iret dX10_priceOn_26 rfl ⟨_, rfl, rfl, rfl, by unfold f_price; rw [hr]⟩
def f_lump (v : fr_V) (ac m : Nat) (x1 x2 : Int32) : Int32 := match f_ruling v ac m 3 3 x1 x2 with
  | none => 0
  | some i => v (lnB ac + i) 1
theorem k_X10_lumpOn {l : Launch} {I : List Nat} (hI : fr_I I) (v : fr_V) (u : fr_U) (ac m : Nat) (x1 x2 : Int32) (hac : ac = 10 ∨ ac = 20) (ha : v 1000 1 = nI ac) (hv : lnOK v ac m) (h1 : vp_in x1 12) (h2 : ¬ x2 = (-1) → vp_in x2 12) : Con l mX10_lumpOn I v u [.ref 1000, .int x1, .int x2] (QI v u (fun a => a = f_lump v ac m x1 x2)) := by
  refine Con.of (by decide) (Nat.le_of_ble_eq_true rfl) ?_
  show J l mX10_lumpOn I v u 0 [(0, .ref 1000), (1, .int x1), (2, .int x2)] [] _
  refine J_aload_n dX10_lumpOn_0 rfl 0 rfl ?_
  refine J_gets (x := .ref (3000 + 3)) dX10_lumpOn_1 el_X10_337 (x_word 3 (by decide)) ?_
  refine J_gets (x := .ref (3000 + 3)) dX10_lumpOn_4 el_X10_337 (x_word 3 (by decide)) ?_
  refine J_iload_n dX10_lumpOn_7 rfl 1 rfl ?_
  refine J_iload_n dX10_lumpOn_8 rfl 2 rfl ?_
  refine J_callO (z := mX10_ruling) (As := [.ref (3000 + 3), .ref (3000 + 3), .int x1, .int x2]) (rest := []) (ci := 10) (x := oref (lnB ac) (f_ruling v ac m 3 3 x1 x2)) dX10_lumpOn_9 ml_X10_322 ok_X10_ruling iv_X10_ruling (by decide) (i1000 hI) rfl rfl rfl rfl (Nat.le_of_ble_eq_true rfl) (k_X10_ruling hI v u ac m 3 3 x1 x2 hac ha hv (by omega) (by omega) h1 h2) ?_
  generalize hr : f_ruling v ac m 3 3 x1 x2 = r
  cases r with
  | none =>
    show J l mX10_lumpOn I v u 12 [(0, .ref 1000), (1, .int x1), (2, .int x2)] [.null] _
    refine J_astore_nZ (lv' := [(3, .null), (0, .ref 1000), (1, .int x1), (2, .int x2)]) dX10_lumpOn_12 rfl (by decide) rfl ?_
    refine J_aload_nN dX10_lumpOn_13 rfl 0 rfl ?_
    refine J_ifnonnullN dX10_lumpOn_14 ?_
    refine J_iconst (x := 0) dX10_lumpOn_17 (by decide) ?_
    refine J_goto (tgt := 25) dX10_lumpOn_18 (by decide) ?_
    exact J_iret dX10_lumpOn_25 rfl ⟨_, rfl, rfl, rfl, by unfold f_lump; rw [hr]⟩
  | some i =>
    have hi := rul_lt hr
    have hs24 : i < 24 := by have := hv.1; omega
    obtain ⟨hw1, hw2⟩ := hv.2.2 i hi
    show J l mX10_lumpOn I v u 12 [(0, .ref 1000), (1, .int x1), (2, .int x2)] [.ref (lnB ac + i)] _
    refine J_astore_n (lv' := [(3, .ref (lnB ac + i)), (0, .ref 1000), (1, .int x1), (2, .int x2)]) dX10_lumpOn_12 rfl (by decide) rfl ?_
    refine J_aload_n dX10_lumpOn_13 rfl 0 rfl ?_
    refine J_ifnonnull (tgt := 21) dX10_lumpOn_14 (by decide) ?_
    refine J_aload_n dX10_lumpOn_21 rfl 0 rfl ?_
    refine J_gete (ci := 4) (j := 1) (x := v (lnB ac + i) 1) dX10_lumpOn_22 fl_X10_334 (ln_in hI hac hs24) (by rw [ln_sh hac hs24]) rfl rfl ?_
    exact J_iret dX10_lumpOn_25 rfl ⟨_, rfl, rfl, rfl, by unfold f_lump; rw [hr]⟩
