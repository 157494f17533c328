theorem lyt_0 {n c g : Nat} {z : fr_V} : ly_i_t n c 0 g z = up2 z 1152 (10 * c + g) (z 1122 (10 * c + g)) := by
  unfold ly_i_t
  rw [if_pos (by decide), if_pos rfl]
theorem lyt_t {n c g : Nat} {z : fr_V} {t : Int32} (h : t = 1 ∨ t = 2 ∨ t = 3) : ly_i_t n c t g z = up2 (f_years z n g (nI c) (z 1100 3)) 1152 (10 * c + g) (f_X11_lived (f_years z n g (nI c) (z 1100 3)) (nI c) (nI g) (lvM t)) := by
  unfold ly_i_t
  rcases h with rfl | rfl | rfl
  · rw [if_neg (by decide), if_neg (by decide), if_pos rfl]; rfl
  · rw [if_neg (by decide), if_neg (by decide), if_neg (by decide), if_pos rfl]; rfl
  · rw [if_neg (by decide), if_neg (by decide), if_neg (by decide), if_neg (by decide)]; rfl
/-- what a laid table stands on, of class state z and reference state w -/
def lyF (z w : fr_V) (n ww : Nat) : Prop := lfR z w n ∧ tbR z w ∧ w 1100 3 = nI ww
theorem lyF.up {z w : fr_V} {n ww j : Nat} {x : Int32} (h : lyF z w n ww) : lyF z (up2 w 1152 j x) n ww := h
theorem lyF.yr {z w : fr_V} {n ww g : Nat} {x1 x3 : Int32} (h : lyF z w n ww) : lyF z (f_years w n g x1 x3) n ww := by
  obtain ⟨⟨a1, a2⟩, b, c⟩ := h
  refine ⟨⟨a1, fun i hi => ?_⟩, fun q g hq hg => ?_, ?_⟩
  · rw [f_years_m (by omega), f_years_m (by omega), f_years_m (by omega)]; exact a2 i hi
  · rw [f_years_m (by omega)]; exact b q g hq hg
  · rw [f_years_m (by omega)]; exact c
def lyD (z w : fr_V) (n ww C G : Nat) (t : Int32) : Prop := lyF z w n ww ∧ ∀ c g, c < 4 → g < 10 → (c < C ∨ (c = C ∧ g < G)) → w 1152 (10 * c + g) = f_live z n c g (nI ww) t
theorem ly_step {z w : fr_V} {n ww C G : Nat} {t : Int32} (hC : C < 4) (hG : G < 10) (ht : t = 0 ∨ t = 1 ∨ t = 2 ∨ t = 3) (h : lyD z w n ww C G t) : lyD z (ly_i_t n C t G w) n ww C (G + 1) t := by
  have other : ∀ (u : fr_V) (x : Int32) (c g : Nat), g < 10 → (c < C ∨ (c = C ∧ g < G)) → up2 u 1152 (10 * C + G) x 1152 (10 * c + g) = u 1152 (10 * c + g) := fun u x c g hg q => by rw [up2_self, pk_un (by omega)]
  rcases ht with rfl | ht
  · rw [lyt_0]
    refine ⟨h.1.up, fun c g hc hg q => ?_⟩
    by_cases e : c = C ∧ g = G
    · rw [e.1, e.2, up2_self, pk_us]
      unfold f_live
      rw [if_pos rfl]
      exact (h.1.2.1 C G hC hG).symm
    · rw [other _ _ c g hg (by omega)]; exact h.2 c g hc hg (by omega)
  · have h0 : ¬ t = 0 := by rcases ht with rfl | rfl | rfl <;> decide
    rw [lyt_t ht]
    refine ⟨h.1.yr.up, fun c g hc hg q => ?_⟩
    by_cases e : c = C ∧ g = G
    · rw [e.1, e.2, up2_self, pk_us, live_eq hC hG h.1.1 h.1.2.1 h0, h.1.2.2]
    · rw [other _ _ c g hg (by omega), f_years_m (by omega)]; exact h.2 c g hc hg (by omega)
theorem ly_row {z w : fr_V} {n ww C : Nat} {t : Int32} (hC : C < 4) (ht : t = 0 ∨ t = 1 ∨ t = 2 ∨ t = 3) (h : lyD z w n ww C 0 t) : ∀ G, G ≤ 10 → lyD z (ly_i n C t w G) n ww C G t := by
  intro G
  induction G with
  | zero => intro _; exact h
  | succ G ih => intro hG; rw [ly_i_s]; exact ly_step hC (by omega) ht (ih (by omega))
theorem ly_all {z w : fr_V} {n ww : Nat} {t : Int32} (ht : t = 0 ∨ t = 1 ∨ t = 2 ∨ t = 3) (h : lyF z w n ww) : ∀ C, C ≤ 4 → lyD z (ly_o n t w C) n ww C 0 t := by
  intro C
  induction C with
  | zero => intro _; exact ⟨h, fun c g _ _ q => by omega⟩
  | succ C ih =>
    intro hC
    rw [ly_o_s]
    unfold ly_o_t
    have k := ly_row (by omega) ht (ih (by omega)) 10 (Nat.le_refl _)
    exact ⟨k.1, fun c g hc hg q => k.2 c g hc hg (by omega)⟩
/-- the laid table is the class's living shares -/
theorem lay_eq {z y : fr_V} {n N ww : Nat} {t : Int32} (ht : t = 0 ∨ t = 1 ∨ t = 2 ∨ t = 3) (h : lyF z (if t ≤ 0 then y else f_know y N (y 1100 3)) n ww) {c g : Nat} (hc : c < 4) (hg : g < 10) : f_lay y n N t 1152 (10 * c + g) = f_live z n c g (nI ww) t := by
  unfold f_lay
  exact (ly_all ht h 4 (Nat.le_refl _)).2 c g hc hg (by omega)
/-- worth on one life -/
theorem wo_eq {z y : fr_V} {n N ww c p : Nat} {t rate x : Int32} (ht : t = 0 ∨ t = 1 ∨ t = 2 ∨ t = 3) (h : lyF z (if t ≤ 0 then y else f_know y N (y 1100 3)) n ww) (hc : c < 4) (hk : y 1107 x.toNatClampNeg = nI c) (hp : f_X11_ageIn y x (y 1100 3) = nI p) (hr : y 1141 2 = rate) (hr0 : ¬ rate < 0) : f_worthOf (f_lay y n N t) x = wo8 z n c ww t rate p := by
  have off : ∀ k j, k ≠ 1100 → k ≠ 1145 → k ≠ 1146 → k ≠ 1152 → f_lay y n N t k j = y k j := fun k j h1 h2 h3 h4 => f_lay_m ⟨by omega, h2, h3, h4⟩
  unfold f_worthOf wo8
  have e : f_X11_ageIn (f_lay y n N t) x (f_lay y n N t 1100 3) = nI p := by
    rw [← hp]
    unfold f_X11_ageIn
    rw [off 1106 _ (by omega) (by omega) (by omega) (by omega), f_lay_m ⟨by omega, by omega, by omega, by omega⟩]
  rw [e]
  refine spwo_e (fun a b => (yb_eq (by rw [off 1141 2 (by omega) (by omega) (by omega) (by omega)]; exact hr) hr0 a b).symm) 100 (fun a ha => ?_) 0
  rw [live_at (by rw [off 1107 _ (by omega) (by omega) (by omega) (by omega)]; exact hk) hc ha, g10_a ha]
  exact lay_eq ht h hc (by omega)
