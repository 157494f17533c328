/-- what a call of the class leaves: the reference's cells -/
def gZ (v b : fr_V) : Prop := ∀ c, 1100 ≤ c → c < 2000 → b c = v c
/-- what a call of the reference leaves: the class's cells -/
def gY (v b : fr_V) : Prop := ∀ c, (c < 1100 ∨ 2000 ≤ c) → b c = v c
theorem gZ.rf {v : fr_V} : gZ v v := fun _ _ _ => rfl
theorem gZ.tr {a b c : fr_V} (h : gZ a b) (k : gZ b c) : gZ a c := fun q h1 h2 => (k q h1 h2).trans (h q h1 h2)
theorem gZ.u {v b : fr_V} (h : gZ v b) {k j : Nat} {x : Int32} (hk : k < 1100 ∨ 2000 ≤ k) : gZ v (up2 b k j x) := fun c h1 h2 => (up2_ne (by omega)).trans (h c h1 h2)
theorem gZ.a {v b : fr_V} (h : gZ v b) {k : Nat} {f : Nat → Int32} (hk : k < 1100 ∨ 2000 ≤ k) : gZ v (upA b k f) := fun c h1 h2 => (upA_ne (by omega)).trans (h c h1 h2)
theorem sm3.g {v b : fr_V} (h : sm3 v b) : gZ v b := fun c h1 h2 => h.1 c h2 (by omega) (by omega) (by omega) (by omega)
theorem sm4.g {v b : fr_V} (h : sm4 v b) : gZ v b := fun c h1 h2 => h.1 c h2 (by omega) (by omega) (by omega) (by omega) (by omega)
theorem gZ.kw {v b : fr_V} {N : Nat} {x : Int32} (h : gZ v b) : gZ v (f_kw b N x) := h.tr sm3.kw.g
theorem gZ.st {v b : fr_V} {ac N nr w : Nat} (h : gZ v b) : gZ v (f_st b ac N nr w) := h.tr (st_sm _ _ _ _ _).g
theorem gZ.ds {v b : fr_V} {N : Nat} {x : Int32} (h : gZ v b) : ∀ r, gZ v (dsW b N x r) := by
  intro r
  induction r with
  | zero => exact h
  | succ r ih => rw [dsW_s]; exact ih.kw
theorem gY.rf {v : fr_V} : gY v v := fun _ _ => rfl
theorem gY.tr {a b c : fr_V} (h : gY a b) (k : gY b c) : gY a c := fun q h1 => (k q h1).trans (h q h1)
theorem gY.u {v b : fr_V} (h : gY v b) {k j : Nat} {x : Int32} (hk : 1100 ≤ k ∧ k < 2000) : gY v (up2 b k j x) := fun c h1 => (up2_ne (by omega)).trans (h c h1)
theorem gY.a {v b : fr_V} (h : gY v b) {k : Nat} {f : Nat → Int32} (hk : 1100 ≤ k ∧ k < 2000) : gY v (upA b k f) := fun c h1 => (upA_ne (by omega)).trans (h c h1)
theorem gY.o {v : fr_V} : gY v (up2 v 1100 2 0) := gY.rf.u (by decide)
theorem gY.kn {v b : fr_V} {N : Nat} {x : Int32} (h : gY v b) : gY v (f_know b N x) := h.tr (fun c h1 => know_o (by omega) (by omega))
theorem gY.ly {v b : fr_V} {n N : Nat} {x : Int32} (h : gY v b) : gY v (f_lay b n N x) := h.tr (fun c h1 => funext (fun j => f_lay_m ⟨by omega, by omega, by omega, by omega⟩))
theorem gY.yr {v b : fr_V} {n g : Nat} {x1 x3 : Int32} (h : gY v b) : gY v (f_years b n g x1 x3) := h.tr (fun c h1 => funext (fun j => f_years_m (by omega)))
theorem gY.sh {v b : fr_V} {NS r : Nat} {x : Int32} (h : gY v b) : gY v (f_shares b NS r x) := by
  unfold f_shares
  exact (h.a (by decide)).u (by decide)
theorem gY.ph {v b : fr_V} {N NS r k h0 : Nat} (h : gY v b) : ∀ s, gY v (py_h N NS r k h0 b s) := by
  intro s
  induction s with
  | zero => exact h
  | succ s ih =>
    rw [py_h_s]
    unfold py_h_t
    split
    · split
      · exact ih
      · split
        · exact ih
        · exact (ih.u (by decide)).sh
    · exact ih
theorem gY.pr {v b : fr_V} {N NS ar k : Nat} (h : gY v b) : ∀ r, gY v (py_r N NS ar k b r) := by
  intro r
  induction r with
  | zero => exact h
  | succ r ih => rw [py_r_s]; exact ih.ph _
theorem gY.pk {v b : fr_V} {nr N NS ar : Nat} (h : gY v b) : ∀ k, gY v (py_k nr N NS ar b k) := by
  intro k
  induction k with
  | zero => exact h
  | succ k ih => rw [py_k_s]; exact ih.kn.pr _
theorem gY.py {v b : fr_V} {nr N NS ar E : Nat} (h : gY v b) : gY v (f_pays b nr N NS ar E) := by
  unfold f_pays
  refine gY.pk (gY.u ?_ (by decide)) _
  refine h.tr (fun c h1 => ?_)
  rw [py_b_o _ (by omega), py_a_o _ (by omega)]
theorem gy_fault {v : fr_V} {x : Int32} : gY v (f_X11_fault v x).2 := by
  unfold f_X11_fault
  repeat' split
  all_goals exact gY.o
theorem gy_named {v : fr_V} {x : Int32} : gY v (f_X11_named v x).2 := by
  unfold f_X11_named
  repeat' split
  all_goals exact gY.o
theorem gy_dead {v : fr_V} {N : Nat} {x1 x2 : Int32} : gY v (f_X11_dead v N x1 x2).2 := by
  unfold f_X11_dead
  repeat' split
  all_goals first | exact gY.o | exact gY.o.kn
theorem gy_holds {v : fr_V} {N : Nat} {x1 x2 : Int32} : gY v (f_X11_holds v N x1 x2).2 := by
  unfold f_X11_holds
  repeat' split
  all_goals first | exact gY.o | exact gY.o.kn
theorem gy_asks {v : fr_V} {m : Nat} {x1 x2 : Int32} : gY v (f_X11_asks v m x1 x2).2 := by
  unfold f_X11_asks
  repeat' split
  all_goals exact gY.o
theorem gy_parts {v : fr_V} {NS : Nat} {x1 x2 x3 : Int32} : gY v (f_X11_parts v NS x1 x2 x3).2 := by
  unfold f_X11_parts
  repeat' split
  all_goals exact gY.o
theorem gy_paid {v : fr_V} {nr N NS ar : Nat} {x1 x2 x3 : Int32} : gY v (f_X11_paid v nr N NS ar x1 x2 x3).2 := by
  unfold f_X11_paid
  repeat' split
  all_goals first | exact gY.o | exact gY.o.py | exact gY.o.kn | exact gY.o.py.kn
theorem gy_got {v : fr_V} {nr N NS ar : Nat} {x1 x2 : Int32} : gY v (f_X11_got v nr N NS ar x1 x2).2 := by
  unfold f_X11_got
  repeat' split
  all_goals first | exact gY.o | exact gY.o.py
theorem gy_owed {v : fr_V} {nr N NS ar : Nat} {x1 x2 : Int32} : gY v (f_X11_owed v nr N NS ar x1 x2).2 := by
  unfold f_X11_owed
  repeat' split
  all_goals first | exact gY.o | exact gY.o.py
theorem gy_state {v : fr_V} {nr N NS ar : Nat} {x1 x2 : Int32} : gY v (f_state v nr N NS ar x1 x2).2 := by
  unfold f_state
  repeat' split
  all_goals first | exact gY.o | exact gY.o.py
theorem gy_own {v : fr_V} {N n : Nat} {x1 x2 x3 x4 : Int32} : gY v (f_X11_own v N n x1 x2 x3 x4).2 := by
  unfold f_X11_own
  repeat' split
  all_goals first | exact gY.o | exact gY.o.kn.yr
theorem gy_worth {v : fr_V} {N n P Q : Nat} {x1 x2 x3 : Int32} : gY v (f_X11_worth v N n P Q x1 x2 x3).2 := by
  unfold f_X11_worth
  repeat' split
  all_goals first | exact gY.o | exact gY.o.ly
theorem gy_conv {v : fr_V} {M N n : Nat} {Pf Qf : Nat → Nat} {x1 : Int32} : gY v (f_conv11 v M N n Pf Qf x1).2 := by
  unfold f_conv11
  split
  · exact gY.o
  · dsimp only
    exact gY.o.kn.ly.ly
theorem gy_halves {v : fr_V} {x : Int32} : gY v (f_X11_halves v x).2 := by
  unfold f_X11_halves
  repeat' split
  all_goals first | exact gY.o | exact gY.o.u (by decide)
theorem gy_life {v : fr_V} {x1 x2 : Int32} : gY v (f_X11_life v x1 x2).2 := by
  unfold f_X11_life
  repeat' split
  all_goals first | exact gY.o | exact ((gY.o.u (by decide)).u (by decide)).u (by decide)
theorem gY.tl {v b : fr_V} {x1 x2 x3 : Int32} (h : gY v b) : gY v (f_X11_told b x1 x2 x3).2 := by
  unfold f_X11_told
  exact ((((h.u (by decide)).u (by decide)).u (by decide)).u (by decide)).u (by decide)
theorem gy_note {v : fr_V} {x1 x2 x3 : Int32} : gY v (f_X11_note v x1 x2 x3).2 := by
  unfold f_X11_note
  repeat' split
  all_goals first | exact gY.o | exact gY.o.tl
theorem gy_strike {v : fr_V} {x1 : Int32} : gY v (f_X11_strike v x1).2 := by
  unfold f_X11_strike
  repeat' split
  all_goals first | exact gY.o | exact gY.o.tl
theorem gy_feed {v : fr_V} {T : Nat} {x1 x2 x3 x4 x5 : Int32} : gY v (f_feed v T x1 x2 x3 x4 x5).2 := by
  unfold f_feed
  split
  · refine gY.u (gY.o.tr (fun c h1 => ?_)) (by decide)
    exact (fd_at T x1 x2 x3 x4 x5 (up2 v 1100 2 0) 20 (Nat.le_refl _)).2 c (by omega)
  · exact gY.o
theorem gy_sell {v : fr_V} {NS : Nat} {x1 x2 x3 x4 : Int32} : gY v (f_X11_sell v NS x1 x2 x3 x4).2 := by
  unfold f_X11_sell
  repeat' split
  all_goals first | exact gY.o | exact (((((gY.o.u (by decide)).u (by decide)).u (by decide)).u (by decide)).u (by decide)).u (by decide)
theorem gy_sold {v : fr_V} {x1 x2 x3 : Int32} : gY v (f_X11_sold v x1 x2 x3).2 := by
  unfold f_X11_sold
  repeat' split
  all_goals first | exact gY.o | exact gY.o.u (by decide)
theorem gy_rent {v : fr_V} {NR M : Nat} {x1 x2 x3 x4 : Int32} : gY v (f_X11_rent v NR M x1 x2 x3 x4).2 := by
  unfold f_X11_rent
  repeat' split
  all_goals first | exact gY.o | exact ((((((gY.o.u (by decide)).u (by decide)).u (by decide)).u (by decide)).u (by decide)).u (by decide)).u (by decide)
theorem gy_names {v : fr_V} {M n N cp : Nat} {x1 : Int32} : gY v (f_names11 v M n N cp x1).2 := by
  unfold f_names11
  split
  · exact gY.o
  · unfold nm6
    split
    · unfold nm5
      refine gY.u (gY.a (gY.a ?_ (by decide)) (by decide)) (by decide)
      unfold nm3
      refine gY.a (gY.a ?_ (by decide)) (by decide)
      unfold nm2 nm1
      exact (gY.o.kn.a (by decide)).ly
    · unfold nm1
      exact gY.o.kn.a (by decide)
theorem gy_acts {v : fr_V} {x1 : Int32} : gY v (f_acts11 v x1).2 := by
  unfold f_acts11
  split
  · exact gY.o
  · split
    · refine fun c hc => ?_
      rw [al_fy.1 c (by omega) (by omega)]
      exact (tk_f.1 c (by omega)).trans (yp_is.1 c (by omega) (by omega) (by omega))
    · exact gY.o
theorem gz_feed {v : fr_V} {t : Nat} {x1 x2 x3 x4 x5 : Int32} : gZ v (f_feed10 v t x1 x2 x3 x4 x5).2 := by
  have p : ∀ (b : fr_V) (s : Nat) (x : Int32), gZ v b → gZ v (f_putBytes b s x) := fun b s x h => by
    unfold f_putBytes
    exact (((((((h.u (by decide)).u (by decide)).u (by decide)).u (by decide)).u (by decide)).u (by decide)).u (by decide)).u (by decide)
  unfold f_feed10
  split
  · exact p _ _ _ (p _ _ _ (p _ _ _ (p _ _ _ (p _ _ _ gZ.rf))))
  · exact gZ.rf
theorem gz_halves {v : fr_V} {x : Int32} : gZ v (f_X10_halves v x).2 := by
  unfold f_X10_halves
  repeat' split
  all_goals first | exact gZ.rf | exact gZ.rf.u (by decide)
theorem gz_life {v : fr_V} {x1 x2 : Int32} : gZ v (f_life10 v x1 x2).2 := by
  unfold f_life10 f_X5_enter
  repeat' split
  all_goals first | exact gZ.rf | exact ((gZ.rf.u (by decide)).u (by decide)).u (by decide)
theorem gz_wr {v : fr_V} {x1 x2 x3 x4 : Int32} : gZ v (f_X1_write v x1 x2 x3 x4).2 := by
  unfold f_X1_write
  split
  · exact (((((gZ.rf.u (by decide)).u (by decide)).u (by decide)).u (by decide)).u (by decide)).u (by decide)
  · exact gZ.rf
theorem gz_note {v : fr_V} {x1 x2 x3 : Int32} : gZ v (f_note10 v x1 x2 x3).2 := by
  unfold f_note10
  repeat' split
  all_goals first | exact gZ.rf | exact gz_wr
theorem gz_strike {v : fr_V} {x1 : Int32} : gZ v (f_strike10 v x1).2 := by
  unfold f_strike10
  split
  · exact gZ.rf
  · exact gz_wr
theorem gz_dead {v : fr_V} {N : Nat} {x1 x2 : Int32} : gZ v (f_dead10 v N x1 x2).2 := by
  unfold f_dead10
  repeat' split
  all_goals first | exact gZ.rf | exact gZ.rf.kw
theorem gz_holds {v : fr_V} {N : Nat} {x1 x2 : Int32} : gZ v (f_holds10 v N x1 x2).2 := by
  unfold f_holds10
  repeat' split
  all_goals first | exact gZ.rf | exact gZ.rf.kw
theorem gz_parts {v : fr_V} {NS : Nat} {x1 x2 x3 : Int32} : gZ v (f_parts10 v NS x1 x2 x3).2 := by
  unfold f_parts10
  repeat' split
  all_goals first | exact gZ.rf | exact gZ.rf.a (by decide)
theorem gz_sell {v : fr_V} {NS : Nat} {x1 x2 x3 x4 : Int32} : gZ v (f_sell10 v NS x1 x2 x3 x4).2 := by
  have p : ∀ (b : fr_V) (x1 x2 x3 x4 x5 : Int32), gZ v b → gZ v (f_X3_passOn b x1 x2 x3 x4 x5).2 := fun b x1 x2 x3 x4 x5 h => by
    unfold f_X3_passOn
    split
    · exact (((((h.u (by decide)).u (by decide)).u (by decide)).u (by decide)).u (by decide)).u (by decide)
    · exact h
  unfold f_sell10
  repeat' split
  all_goals first | exact gZ.rf | exact gZ.rf.a (by decide) | exact p _ _ _ _ _ _ (gZ.rf.a (by decide))
theorem gz_paid {v : fr_V} {ac N nr w : Nat} {x1 x2 x3 : Int32} : gZ v (f_paid10 v ac N nr w x1 x2 x3).2 := by
  unfold f_paid10
  repeat' split
  all_goals first | exact gZ.rf | exact gZ.rf.st | exact gZ.rf.kw | exact gZ.rf.st.kw
theorem gz_owed {v : fr_V} {ac N nr w : Nat} {x1 x2 : Int32} : gZ v (f_owed10 v ac N nr w x1 x2).2 := by
  unfold f_owed10
  repeat' split
  all_goals first | exact gZ.rf | exact gZ.rf.st.kw
theorem gz_state {v : fr_V} {ac N nr w : Nat} {x1 x2 : Int32} : gZ v (f_state10 v ac N nr w x1 x2).2 := by
  unfold f_state10
  repeat' split
  all_goals first | exact gZ.rf | exact gZ.rf.st | exact gZ.rf.st.ds _
theorem gz_sold {v : fr_V} {x1 x2 x3 : Int32} : gZ v (f_sold10 v x1 x2 x3).2 := by
  rw [sold_e]
  by_cases v9 : vp_in x1 4
  · have hx : x1.toNatClampNeg < 4 := vz_of (n := 4) v9 (by decide)
    repeat' split
    all_goals first | exact gZ.rf | exact gZ.rf.u (by omega)
  · rw [cI_neg v9, if_pos rfl]; exact gZ.rf
theorem gz_own {v : fr_V} {N n : Nat} {x1 x2 x3 x4 : Int32} : gZ v (f_own10 v N n x1 x2 x3 x4).2 := by
  have p : ∀ (b : fr_V) (q : Int32 × Int32), gZ v b → gZ v (w_cy b q) := fun b q h => (h.u (by decide)).u (by decide)
  unfold f_own10
  repeat' split
  all_goals first | exact gZ.rf | exact gZ.rf.kw | exact p _ _ gZ.rf.kw
theorem gz_got {v b : fr_V} {ac N nr w : Nat} (h : b = v ∨ ∃ G, b = upA (f_st v ac N nr w) 310 G) : gZ v b := by
  rcases h with h | ⟨G, h⟩
  · rw [h]; exact gZ.rf
  · rw [h]; exact gZ.rf.st.a (by decide)
theorem gz_fw2 {v b : fr_V} {N w : Nat} (h : b = v ∨ fw2 (f_kw v N (nI w)) b) : gZ v b := by
  rcases h with h | h
  · rw [h]; exact gZ.rf
  · exact gZ.rf.kw.tr (fun c h1 h2 => h c (by omega) (by omega) (by omega))
theorem gZ.w3 {v b b' : fr_V} (g : gZ v b) (h : fw3 b b') : gZ v b' := g.tr (fun c h1 h2 => h c (by omega) (by omega) (by omega) (by omega) (by omega) (by omega) (by omega))
theorem gz_conv {v b : fr_V} {N w : Nat} (h : b = v ∨ (fw3 (f_kw v N (nI w)) b ∧ b 200 = f_kw v N (nI w) 200)) : gZ v b := by
  rcases h with h | h
  · rw [h]; exact gZ.rf
  · exact gZ.rf.kw.w3 h.1
theorem gZ.bs {v b b' : fr_V} (g : gZ v b) (h : bsm b b') : gZ v b' := g.tr (fun c h1 h2 => h.1 c (by omega) (by omega) (by omega))
theorem gZ.ch {v b : fr_V} {x1 x2 : Int32} {n : Nat} (h : gZ v b) : ∀ j, gZ v (chF x1 x2 n b j) := by
  intro j
  induction j with
  | zero => exact h
  | succ j ih => rw [chF_s]; exact ih.bs bsm.ch
theorem gz_names {v b : fr_V} {ac m N n w : Nat} {x1 a : Int32} (h : nmQ v ac m N n w x1 a b) : gZ v b := by
  unfold nmQ at h
  split at h
  · rw [h.2]; exact gZ.rf
  · split at h
    · obtain ⟨z, h1, -, h2⟩ := h
      have g := gZ.rf.kw.w3 h1.1
      rw [h2]
      unfold f_choose
      split
      · refine gZ.ch ?_ _
        unfold ch0
        exact ((((((g.a (by decide)).a (by decide)).u (by decide)).u (by decide)).u (by decide)).u (by decide)).u (by decide)
      · exact g
    · rw [h.2]; exact gZ.rf
theorem gz_acts {v : fr_V} {ac t : Nat} {x1 : Int32} (hac : ac = 10 ∨ ac = 20) (hd : dyn v) (ht : v 600 1 = nI t) (ht5 : t ≤ 500) : gZ v (f_acts10 v ac x1).2 := by
  unfold f_acts10
  by_cases c1 : x1 < 0
  · rw [if_pos c1]; exact gZ.rf
  rw [if_neg c1, ht]
  by_cases c2 : x1 ≤ nI t
  rotate_left
  · rw [if_neg c2]; exact gZ.rf
  rw [if_pos c2]
  obtain ⟨E, hEt, hx⟩ := leN11 rfl ht5 c1 c2
  rw [hx, nI_clamp (show E < 2 ^ 31 by omega)]
  have hs : 30 - ac = 10 ∨ 30 - ac = 20 := by omega
  have hL := ln_far hs
  obtain ⟨q, hq, hRA, hgo⟩ := RA.start (ac := 30 - ac) (E := E) (z := v) (y := fun c => if c = 1101 then v 601 else v c) hs (by omega) (fun i hi => rfl)
  obtain ⟨-, gc⟩ := go_fr hs (by omega) hd hgo
  have er : f_read v (30 - ac) E = f_rdE (go (30 - ac) E (zp v (30 - ac) E)) := congrArg f_rdE hgo
  rw [er]
  have g : gZ v (go (30 - ac) E (zp v (30 - ac) E)) := fun c h1 h2 => gc c (by omega) (by omega) (by omega) (fun i hi => by omega)
  have gr : ∀ b, gZ v b → gZ v (f_rdE b).2 := fun b h => by
    unfold f_rdE
    repeat' split
    all_goals first | exact h.u (by decide) | exact (h.u (by decide)).u (by decide)
  by_cases c3 : (f_rdE (go (30 - ac) E (zp v (30 - ac) E))).1 = (-1)
  · rw [if_pos c3]; exact gr _ g
  · rw [if_neg c3]
    unfold f_X3_reopen
    exact (((gr _ g).u (by decide)).u (by decide)).u (by decide)
