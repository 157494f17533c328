def bt (x : Int32) (i : Nat) : Bool := x.toBitVec.getLsbD i
theorem b_ext {x y : Int32} (h : ∀ i, i < 32 → bt x i = bt y i) : x = y := Int32.toBitVec_inj.mp (BitVec.eq_of_getLsbD_eq (fun i hi => h i hi))
theorem b_and (x y : Int32) (i : Nat) : bt (x &&& y) i = (bt x i && bt y i) := by unfold bt; rw [Int32.toBitVec_and, BitVec.getLsbD_and]
theorem b_big {x : Int32} {i : Nat} (h : 32 ≤ i) : bt x i = false := BitVec.getLsbD_of_ge _ _ h
theorem b_255 (i : Nat) : bt 255 i = decide (i < 8) := by
  rcases Nat.lt_or_ge i 32 with h | h
  · exact (by decide +kernel : ∀ i, i < 32 → bt 255 i = decide (i < 8)) i h
  · rw [b_big h, decide_eq_false (by omega)]
theorem s_l : ∀ n, n < 32 → ((nI n &&& 31).toBitVec.smod 32).toNat = n := by decide +kernel
theorem s_u : ∀ n, n < 32 → (((nI n).toUInt32 &&& Int32.toUInt32 31).toBitVec % 32).toNat = n := by decide +kernel
theorem b_ushr (n : Nat) (hn : n < 32) (x : Int32) (i : Nat) : bt ((x.toUInt32 >>> ((nI n).toUInt32 &&& Int32.toUInt32 31)).toInt32) i = bt x (n + i) := by
  show (x.toUInt32 >>> ((nI n).toUInt32 &&& Int32.toUInt32 31)).toBitVec.getLsbD i = x.toUInt32.toBitVec.getLsbD (n + i)
  rw [UInt32.toBitVec_shiftRight]
  show (x.toUInt32.toBitVec >>> (((nI n).toUInt32 &&& Int32.toUInt32 31).toBitVec % 32).toNat).getLsbD i = _
  rw [s_u n hn, BitVec.getLsbD_ushiftRight]
theorem b_sshr (n : Nat) (hn : n < 32) (x : Int32) {i : Nat} (hi : i < 32) : bt (x >>> (nI n &&& 31)) i = if n + i < 32 then bt x (n + i) else bt x 31 := by
  unfold bt
  rw [Int32.toBitVec_shiftRight]
  show (x.toBitVec.sshiftRight ((nI n &&& 31).toBitVec.smod 32).toNat).getLsbD i = _
  rw [s_l n hn, BitVec.getLsbD_sshiftRight, BitVec.msb_eq_getLsbD_last]
  simp [hi]
/-- a byte, by either shift -/
theorem by_eq (n : Nat) (hn : n ≤ 24) (x : Int32) : ((x.toUInt32 >>> ((nI n).toUInt32 &&& Int32.toUInt32 31)).toInt32) &&& 255 = (x >>> (nI n &&& 31)) &&& 255 := by
  refine b_ext (fun i hi => ?_)
  rw [b_and, b_and, b_255, b_ushr n (by omega), b_sshr n (by omega) x hi]
  by_cases h : i < 8
  · rw [if_pos (by omega)]
  · rw [decide_eq_false h, Bool.and_false, Bool.and_false]
def byV (x : Int32) (j : Nat) : Int32 := (x >>> (nI (24 - 8 * j) &&& 31)) &&& 255
theorem put_at {v : fr_V} {t : Nat} {x : Int32} (i : Nat) : f_putBytes v t x 601 i = if t ≤ i ∧ i < t + 4 then byV x (i - t) else v 601 i := by
  have e0 := by_eq 24 (by decide) x
  have e1 := by_eq 16 (by decide) x
  have e2 := by_eq 8 (by decide) x
  have e3 := by_eq 0 (by decide) x
  show upd (upd (upd (upd (v 601) t _) (t + 1) _) ((t + 1) + 1) _) (((t + 1) + 1) + 1) _ i = _
  unfold upd
  by_cases h : t ≤ i ∧ i < t + 4
  · rw [if_pos h]
    rcases (show i = t ∨ i = t + 1 ∨ i = t + 2 ∨ i = t + 3 by omega) with rfl | rfl | rfl | rfl
    · rw [if_neg (by omega), if_neg (by omega), if_neg (by omega), if_pos rfl, Nat.sub_self]; exact e0
    · rw [if_neg (by omega), if_neg (by omega), if_pos rfl, show t + 1 - t = 1 by omega]; exact e1
    · rw [if_neg (by omega), if_pos rfl, show t + 2 - t = 2 by omega]; exact e2
    · rw [if_pos rfl, show t + 3 - t = 3 by omega]; exact e3
  · rw [if_neg h, if_neg (by omega), if_neg (by omega), if_neg (by omega), if_neg (by omega)]
theorem put_o {v : fr_V} {t : Nat} {x : Int32} {c : Nat} (h0 : c ≠ 600) (h1 : c ≠ 601) : f_putBytes v t x c = v c := by
  unfold f_putBytes
  rw [up2_ne h0, up2_ne h1, up2_ne h0, up2_ne h1, up2_ne h0, up2_ne h1, up2_ne h0, up2_ne h1]
theorem put_6 {v : fr_V} {t : Nat} {x : Int32} {j : Nat} (h : j ≠ 1) : f_putBytes v t x 600 j = v 600 j := by
  show upd (upd (upd (upd (v 600) 1 _) 1 _) 1 _) 1 _ j = _
  unfold upd
  rw [if_neg h, if_neg h, if_neg h, if_neg h]
theorem put_1 {v : fr_V} {t : Nat} {x : Int32} : f_putBytes v t x 600 1 = nI (t + 4) := by
  show (((nI t + 1) + 1) + 1) + 1 = nI (t + 4)
  rw [nI_1, nI_1, nI_1, nI_1]
def xqV (x1 x2 x3 x4 x5 : Int32) (j : Nat) : Int32 := if j < 4 then x1 else if j < 8 then x2 else if j < 12 then x3 else if j < 16 then x4 else x5
theorem fdt_is (T : Nat) (x1 x2 x3 x4 x5 : Int32) (z : fr_V) : ∀ j, j < 20 → fd_a_t T x1 x2 x3 x4 x5 j z = up2 z 1101 (T + j) (byV (xqV x1 x2 x3 x4 x5 j) (j % 4)) := by
  intro j hj
  rcases (show j = 0 ∨ j = 1 ∨ j = 2 ∨ j = 3 ∨ j = 4 ∨ j = 5 ∨ j = 6 ∨ j = 7 ∨ j = 8 ∨ j = 9 ∨ j = 10 ∨ j = 11 ∨ j = 12 ∨ j = 13 ∨ j = 14 ∨ j = 15 ∨ j = 16 ∨ j = 17 ∨ j = 18 ∨ j = 19 by omega) with rfl | rfl | rfl | rfl | rfl | rfl | rfl | rfl | rfl | rfl | rfl | rfl | rfl | rfl | rfl | rfl | rfl | rfl | rfl | rfl <;> rfl
theorem fd_at (T : Nat) (x1 x2 x3 x4 x5 : Int32) (w0 : fr_V) : ∀ n, n ≤ 20 → (∀ i, fd_a T x1 x2 x3 x4 x5 w0 n 1101 i = if T ≤ i ∧ i < T + n then byV (xqV x1 x2 x3 x4 x5 (i - T)) ((i - T) % 4) else w0 1101 i) ∧ ∀ c, c ≠ 1101 → fd_a T x1 x2 x3 x4 x5 w0 n c = w0 c := by
  intro n
  induction n with
  | zero => intro _; exact ⟨fun i => by rw [if_neg (by omega)]; rfl, fun c _ => rfl⟩
  | succ n ih =>
    intro hn
    obtain ⟨a, b⟩ := ih (by omega)
    rw [fd_a_s, fdt_is T x1 x2 x3 x4 x5 _ n (by omega)]
    refine ⟨fun i => ?_, fun c hc => by rw [up2_ne hc]; exact b c hc⟩
    rw [up2_self]
    unfold upd
    by_cases e : i = T + n
    · subst e
      rw [if_pos rfl, if_pos (by omega), show T + n - T = n by omega]
    · rw [if_neg e, a i]
      by_cases e2 : T ≤ i ∧ i < T + n
      · rw [if_pos e2, if_pos (by omega)]
      · rw [if_neg e2, if_neg (by omega)]
section STP
variable {I : List Nat} {ac m N n nr NS w t ar : Nat} {z y : fr_V}
theorem RLp.tape (h : RLp I ac m N n nr NS w t ar z y) {t' : Nat} {z' y' : fr_V} (ez : ∀ c, c ≠ 600 → c ≠ 601 → z' c = z c) (e6 : ∀ j, j ≠ 1 → z' 600 j = z 600 j) (ey : ∀ c, c ≠ 1100 → c ≠ 1101 → y' c = y c) (ey0 : ∀ j, j ≠ 1 → y' 1100 j = y 1100 j) (ht : tp2 z' y' t') : RLp I ac m N n nr NS w t' ar z' y' := by
  have hW : ∀ r, r < nr → prW y N n r := fun r hr => h.pw hr
  obtain ⟨⟨a1, a2, a3, a4⟩, b, c, d, f, g, k1, hc, hp, l, o⟩ := id h
  have z1 : ∀ r, z' (2000 + 10 * r) = z (2000 + 10 * r) := fun r => ez _ (by omega) (by omega)
  have z2 : ∀ r, z' (2007 + 10 * r) = z (2007 + 10 * r) := fun r => ez _ (by omega) (by omega)
  refine ⟨⟨?_, a2, ?_, a4.c (by rw [ez 300 (by decide) (by decide)]) (ez 302 (by decide) (by decide)) z1 (ey0 7 (by decide)) (fun c hc => by simp only [List.mem_cons, List.mem_nil_iff, or_false] at hc; exact ey c (by omega) (by omega))⟩, ⟨by rw [ez 1000 (by decide) (by decide)]; exact b.1, by rw [ey0 3 (by decide)]; exact b.2⟩, ?_, d.c z1 (fun c hc => by simp only [List.mem_cons, List.mem_nil_iff, or_false] at hc; exact ez c (by omega) (by omega)), (f.z (fun c hc => ez c (by omega) (by omega))).y (ey0 38 (by decide)) (fun c hc => by simp only [List.mem_cons, List.mem_nil_iff, or_false] at hc; exact ey c (by omega) (by omega)), ht, ?_, ?_, hp.c (n := n) z2 (by rw [ez 300 (by decide) (by decide)]) (fun r hr => ⟨⟨by rw [ey 1109 (by decide) (by decide)], by rw [ey 1111 (by decide) (by decide)], by rw [ey 1112 (by decide) (by decide)]⟩, fun i _ => ⟨by rw [ey 1118 (by decide) (by decide)], by rw [ey 1119 (by decide) (by decide)], by rw [ey 1120 (by decide) (by decide)], by rw [ey 1121 (by decide) (by decide)]⟩, by rw [ey 1141 (by decide) (by decide)], fun l _ => by rw [ey 1106 (by decide) (by decide)]⟩) hW, l.c (fun k j h9 => ?_), by rw [ez 302 (by decide) (by decide)]; exact o⟩
  · unfold nt2 at a1 ⊢
    rw [ez 100 (by decide) (by decide), ez 102 (by decide) (by decide), ez 103 (by decide) (by decide), ez 104 (by decide) (by decide), ez 105 (by decide) (by decide), ey0 16 (by decide), ey 1118 (by decide) (by decide), ey 1119 (by decide) (by decide), ey 1120 (by decide) (by decide), ey 1121 (by decide) (by decide)]
    exact a1
  · unfold li2 at a3 ⊢
    rw [ez 500 (by decide) (by decide), ez 501 (by decide) (by decide), ez 502 (by decide) (by decide), ey0 4 (by decide), ey 1106 (by decide) (by decide), ey 1107 (by decide) (by decide)]
    exact a3
  · unfold sl2 slR at c ⊢
    rw [ez 300 (by decide) (by decide), ez 304 (by decide) (by decide), ez 305 (by decide) (by decide), ez 306 (by decide) (by decide), ez 307 (by decide) (by decide), ez 308 (by decide) (by decide), ey0 14 (by decide), ey 1116 (by decide) (by decide)]
    exact c
  · unfold mi2 tbR at k1 ⊢
    rw [e6 14 (by decide), e6 15 (by decide), ez 200 (by decide) (by decide), ez 210 (by decide) (by decide), ey0 23 (by decide), ey0 24 (by decide), ey0 52 (by decide), ey 1122 (by decide) (by decide), ey 1154 (by decide) (by decide), ey 1123 (by decide) (by decide)]
    exact ⟨fun c9 g9 q1 q2 => by rw [ez (910 + c9) (by omega) (by omega)]; exact k1.1 c9 g9 q1 q2, k1.2⟩
  · intro k hk e
    have q := hc k hk (by rw [ez 100 (by decide) (by decide)] at e; exact e)
    unfold knC dedC cntC at q ⊢
    rw [ez 102 (by decide) (by decide), ez 103 (by decide) (by decide), ez 104 (by decide) (by decide), ez 105 (by decide) (by decide), ez 108 (by decide) (by decide), ez 109 (by decide) (by decide), ez 110 (by decide) (by decide), ez 501 (by decide) (by decide)]
    exact q
  · unfold dynF at h9
    by_cases e : k = 600
    · subst e; exact e6 j (by omega)
    · rw [ez k e (by omega)]
theorem s_feed (h : RLp I ac m N n nr NS w t ar z y) (x1 x2 x3 x4 x5 : Int32) : (f_feed10 z t x1 x2 x3 x4 x5).1 = (f_feed y t x1 x2 x3 x4 x5).1 ∧ ∃ t', RLp I ac m N n nr NS w t' ar (f_feed10 z t x1 x2 x3 x4 x5).2 (f_feed y t x1 x2 x3 x4 x5).2 := by
  have h0 := h.th 0
  obtain ⟨-, -, -, -, -, g, -⟩ := id h0
  have ht := g.1
  unfold f_feed10 f_feed
  by_cases c : nI t + 20 ≤ 500
  · rw [if_pos c, if_pos c]
    dsimp only
    have c' : t + 20 ≤ 500 := by
      rw [show (20 : Int32) = nI 20 from rfl, nI_add] at c
      exact (nI_leI (b := 500) (by omega) (by decide)).mp c
    have e20 : nI t + 20 = nI (t + 20) := nI_add t 20
    have Y := fd_at t x1 x2 x3 x4 x5 (up2 y 1100 2 0) 20 (Nat.le_refl _)
    have one : f_putBytes (f_putBytes (f_putBytes (f_putBytes (f_putBytes z t x1) (t + 4) x2) (t + 8) x3) (t + 12) x4) (t + 16) x5 600 1 = nI (t + 20) := put_1
    refine ⟨by rw [e20]; exact one, t + 20, h0.tape (fun c h1 h2 => by rw [put_o h1 h2, put_o h1 h2, put_o h1 h2, put_o h1 h2, put_o h1 h2]) (fun j hj => by rw [put_6 hj, put_6 hj, put_6 hj, put_6 hj, put_6 hj]) (fun c h1 h2 => by rw [up2_ne h1]; exact Y.2 c h2) (fun j hj => by rw [up2_self]; unfold upd; rw [if_neg hj, Y.2 1100 (by decide)]) ⟨c', one, by rw [up2_self]; exact e20, fun i hi => ?_⟩⟩
    rw [put_at, put_at, put_at, put_at, put_at, up2_ne (by decide), Y.1 i]
    by_cases q5 : t + 16 ≤ i ∧ i < t + 16 + 4
    · rw [if_pos q5, if_pos (by omega)]
      unfold xqV
      rw [if_neg (by omega), if_neg (by omega), if_neg (by omega), if_neg (by omega), show (i - t) % 4 = i - (t + 16) by omega]
    · rw [if_neg q5]
      by_cases q4 : t + 12 ≤ i ∧ i < t + 12 + 4
      · rw [if_pos q4, if_pos (by omega)]
        unfold xqV
        rw [if_neg (by omega), if_neg (by omega), if_neg (by omega), if_pos (by omega), show (i - t) % 4 = i - (t + 12) by omega]
      · rw [if_neg q4]
        by_cases q3 : t + 8 ≤ i ∧ i < t + 8 + 4
        · rw [if_pos q3, if_pos (by omega)]
          unfold xqV
          rw [if_neg (by omega), if_neg (by omega), if_pos (by omega), show (i - t) % 4 = i - (t + 8) by omega]
        · rw [if_neg q3]
          by_cases q2 : t + 4 ≤ i ∧ i < t + 4 + 4
          · rw [if_pos q2, if_pos (by omega)]
            unfold xqV
            rw [if_neg (by omega), if_pos (by omega), show (i - t) % 4 = i - (t + 4) by omega]
          · rw [if_neg q2]
            by_cases q1 : t ≤ i ∧ i < t + 4
            · rw [if_pos q1, if_pos (by omega)]
              unfold xqV
              rw [if_pos (by omega), show (i - t) % 4 = i - t by omega]
            · rw [if_neg q1, if_neg (by omega)]
              exact g.2.2.2 i (by omega)
  · rw [if_neg c, if_neg c]; exact ⟨rfl, t, h0⟩
end STP
