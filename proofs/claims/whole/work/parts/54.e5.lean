def f_putW (v : fr_V) (ac : Nat) (m : Nat) (rl : Nat) (ow : Nat) (w : Nat) : Int32 × fr_V := if (v 600 5) = 0 then ((f_plw v ac m w).1, (f_plw v ac m w).2) else if (v 600 5) = 1 then ((f_pam v ac rl ow).1, (f_pam v ac rl ow).2) else if (v 600 5) = 2 then ((f_pwh v ac rl w).1, (f_pwh v ac rl w).2) else if (v 600 5) = 3 then ((f_pfr v ow).1, (f_pfr v ow).2) else if (v 600 5) = 4 then (if w = 13 then (0, up2 v 600 5 5) else (1, up2 v 600 5 5)) else if (v 600 5) = 5 then ((f_pup v ac rl ow).1, (f_pup v ac rl ow).2) else if (v 600 5) = 6 then ((f_pcl v ac rl ow).1, (f_pcl v ac rl ow).2) else if (v 600 5) = 7 then (if w = 14 then (0, up2 v 600 5 6) else ((f_pwh v ac rl w).1, (f_pwh v ac rl w).2)) else ((f_ple v).1, (f_ple v).2)
theorem k_X6_put_w {l : Launch} {I : List Nat} (hI : fr_I I) (v : fr_V) (u : fr_U) (ac : Nat) (m : Nat) (rl : Nat) (ow : Nat) (w : Nat) (hac : ac = 10 ∨ ac = 20) (hi : v 600 3 = nI ac) (hm : v ac 1 = nI m) (hm2 : m ≤ 24) (hrl : rl < 24) (hr : v 600 7 = nI (lnB ac + rl)) (how : ow < 15) (ho : v 600 6 = nI (3000 + ow)) (hw : w < 15) (hwd : v 600 13 = nI (3000 + w)) : Con l mX6_put I v u [.ref 600] (QX u (fun a b => a = (f_putW v ac m rl ow w).1 ∧ b = (f_putW v ac m rl ow w).2)) := by
  refine Con.of (by decide) (Nat.le_of_ble_eq_true rfl) ?_
  show J l mX6_put I v u 0 [(0, .ref 600)] [] _
  refine J_aload_n dX6_put_0 rfl 0 rfl ?_
  refine J_gete (ci := 6) (j := 5) (x := v 600 5) dX6_put_1 fl_X6_57 (i600 hI) rfl rfl rfl ?_
  by_cases c1 : v 600 5 = 0
  · refine J_tableIn (off := 48) (tgt := 52) dX6_put_4 (by rw [c1]; decide) (by rw [c1]; decide) (by rw [c1]; decide) (by decide) ?_
    refine J_aload_n dX6_put_52 rfl 0 rfl ?_
    refine J_eVX (z := mX6_putLineWord) (As := []) (rest := []) (ci := 6) (x := (f_plw v ac m w).1) (w := (f_plw v ac m w).2) dX6_put_53 ml_X6_124 ok_X6_putLineWord iv_X6_putLineWord (by decide) (i600 hI) rfl rfl rfl rfl (Nat.le_of_ble_eq_true rfl) (k_X6_putLineWord_w hI v u ac m w hac hi hm hm2 hw hwd) ?_
    exact J_iret dX6_put_56 rfl ⟨_, rfl, rfl, by unfold f_putW; rw [if_pos c1], by unfold f_putW; rw [if_pos c1]⟩
  by_cases c2 : v 600 5 = 1
  · refine J_tableIn (off := 53) (tgt := 57) dX6_put_4 (by rw [c2]; decide) (by rw [c2]; decide) (by rw [c2]; decide) (by decide) ?_
    refine J_aload_n dX6_put_57 rfl 0 rfl ?_
    refine J_eVX (z := mX6_putAmount) (As := []) (rest := []) (ci := 6) (x := (f_pam v ac rl ow).1) (w := (f_pam v ac rl ow).2) dX6_put_58 ml_X6_127 ok_X6_putAmount iv_X6_putAmount (by decide) (i600 hI) rfl rfl rfl rfl (Nat.le_of_ble_eq_true rfl) (k_X6_putAmount hI v u ac rl ow hac hi hrl hr how ho) ?_
    exact J_iret dX6_put_61 rfl ⟨_, rfl, rfl, by unfold f_putW; rw [if_neg c1, if_pos c2], by unfold f_putW; rw [if_neg c1, if_pos c2]⟩
  by_cases c3 : v 600 5 = 2
  · refine J_tableIn (off := 58) (tgt := 62) dX6_put_4 (by rw [c3]; decide) (by rw [c3]; decide) (by rw [c3]; decide) (by decide) ?_
    refine J_aload_n dX6_put_62 rfl 0 rfl ?_
    refine J_eVX (z := mX6_putWhom) (As := []) (rest := []) (ci := 6) (x := (f_pwh v ac rl w).1) (w := (f_pwh v ac rl w).2) dX6_put_63 ml_X6_130 ok_X6_putWhom iv_X6_putWhom (by decide) (i600 hI) rfl rfl rfl rfl (Nat.le_of_ble_eq_true rfl) (k_X6_putWhom_w hI v u ac rl w hac hi hrl hr hw hwd) ?_
    exact J_iret dX6_put_66 rfl ⟨_, rfl, rfl, by unfold f_putW; rw [if_neg c1, if_neg c2, if_pos c3], by unfold f_putW; rw [if_neg c1, if_neg c2, if_pos c3]⟩
  by_cases c4 : v 600 5 = 3
  · refine J_tableIn (off := 63) (tgt := 67) dX6_put_4 (by rw [c4]; decide) (by rw [c4]; decide) (by rw [c4]; decide) (by decide) ?_
    refine J_aload_n dX6_put_67 rfl 0 rfl ?_
    refine J_eVX (z := mX6_putFrom) (As := []) (rest := []) (ci := 6) (x := (f_pfr v ow).1) (w := (f_pfr v ow).2) dX6_put_68 ml_X6_133 ok_X6_putFrom iv_X6_putFrom (by decide) (i600 hI) rfl rfl rfl rfl (Nat.le_of_ble_eq_true rfl) (k_X6_putFrom hI v u ow how ho) ?_
    exact J_iret dX6_put_71 rfl ⟨_, rfl, rfl, by unfold f_putW; rw [if_neg c1, if_neg c2, if_neg c3, if_pos c4], by unfold f_putW; rw [if_neg c1, if_neg c2, if_neg c3, if_pos c4]⟩
  by_cases c5 : v 600 5 = 4
  · refine J_tableIn (off := 68) (tgt := 72) dX6_put_4 (by rw [c5]; decide) (by rw [c5]; decide) (by rw [c5]; decide) (by decide) ?_
    refine J_aload_n dX6_put_72 rfl 0 rfl ?_
    refine J_iconst (x := 5) dX6_put_73 (by decide) ?_
    refine J_puti (ci := 6) (j := 5) dX6_put_74 fl_X6_57 (i600 hI) rfl rfl (fun q h => by cases h; rfl) rfl ?_
    refine J_aload_n dX6_put_77 rfl 0 rfl ?_
    refine J_getd (ci := 6) (j := 13) (t := 3000 + w) dX6_put_78 fl_X6_82 (i600 hI) rfl rfl (by rw [show (up2 v 600 5 5) 600 13 = nI (3000 + w) from hwd]; exact nI_pos (by omega)) (by rw [show (up2 v 600 5 5) 600 13 = nI (3000 + w) from hwd]; exact nI_clamp (by omega)) ?_
    refine J_gets (x := .ref (3000 + 13)) dX6_put_81 el_X6_136 (x_word 13 (by decide)) ?_
    refine J_acmpW_ne (i := w) (j := 13) (tgt := 91) dX6_put_84 (by decide) (by omega) (by omega) (fun c6 => ?_) (fun c6 => ?_)
    · refine J_iconst (x := 1) dX6_put_91 (by decide) ?_
      exact J_iret dX6_put_92 rfl ⟨_, rfl, rfl, by unfold f_putW; rw [if_neg c1, if_neg c2, if_neg c3, if_neg c4, if_pos c5, if_neg c6], by unfold f_putW; rw [if_neg c1, if_neg c2, if_neg c3, if_neg c4, if_pos c5, if_neg c6]⟩
    · refine J_iconst (x := 0) dX6_put_87 (by decide) ?_
      refine J_goto (tgt := 92) dX6_put_88 (by decide) ?_
      exact J_iret dX6_put_92 rfl ⟨_, rfl, rfl, by unfold f_putW; rw [if_neg c1, if_neg c2, if_neg c3, if_neg c4, if_pos c5, if_pos c6], by unfold f_putW; rw [if_neg c1, if_neg c2, if_neg c3, if_neg c4, if_pos c5, if_pos c6]⟩
  by_cases c7 : v 600 5 = 5
  · refine J_tableIn (off := 89) (tgt := 93) dX6_put_4 (by rw [c7]; decide) (by rw [c7]; decide) (by rw [c7]; decide) (by decide) ?_
    refine J_aload_n dX6_put_93 rfl 0 rfl ?_
    refine J_eVX (z := mX6_putUpTo) (As := []) (rest := []) (ci := 6) (x := (f_pup v ac rl ow).1) (w := (f_pup v ac rl ow).2) dX6_put_94 ml_X6_139 ok_X6_putUpTo iv_X6_putUpTo (by decide) (i600 hI) rfl rfl rfl rfl (Nat.le_of_ble_eq_true rfl) (k_X6_putUpTo hI v u ac rl ow hac hi hrl hr how ho) ?_
    exact J_iret dX6_put_97 rfl ⟨_, rfl, rfl, by unfold f_putW; rw [if_neg c1, if_neg c2, if_neg c3, if_neg c4, if_neg c5, if_pos c7], by unfold f_putW; rw [if_neg c1, if_neg c2, if_neg c3, if_neg c4, if_neg c5, if_pos c7]⟩
  by_cases c8 : v 600 5 = 6
  · refine J_tableIn (off := 94) (tgt := 98) dX6_put_4 (by rw [c8]; decide) (by rw [c8]; decide) (by rw [c8]; decide) (by decide) ?_
    refine J_aload_n dX6_put_98 rfl 0 rfl ?_
    refine J_eVX (z := mX6_putClass) (As := []) (rest := []) (ci := 6) (x := (f_pcl v ac rl ow).1) (w := (f_pcl v ac rl ow).2) dX6_put_99 ml_X6_142 ok_X6_putClass iv_X6_putClass (by decide) (i600 hI) rfl rfl rfl rfl (Nat.le_of_ble_eq_true rfl) (k_X6_putClass hI v u ac rl ow hac hi hrl hr how ho) ?_
    exact J_iret dX6_put_102 rfl ⟨_, rfl, rfl, by unfold f_putW; rw [if_neg c1, if_neg c2, if_neg c3, if_neg c4, if_neg c5, if_neg c7, if_pos c8], by unfold f_putW; rw [if_neg c1, if_neg c2, if_neg c3, if_neg c4, if_neg c5, if_neg c7, if_pos c8]⟩
  by_cases c9 : v 600 5 = 7
  · refine J_tableIn (off := 99) (tgt := 103) dX6_put_4 (by rw [c9]; decide) (by rw [c9]; decide) (by rw [c9]; decide) (by decide) ?_
    refine J_aload_n dX6_put_103 rfl 0 rfl ?_
    refine J_getd (ci := 6) (j := 13) (t := 3000 + w) dX6_put_104 fl_X6_82 (i600 hI) rfl rfl (by rw [show v 600 13 = nI (3000 + w) from hwd]; exact nI_pos (by omega)) (by rw [show v 600 13 = nI (3000 + w) from hwd]; exact nI_clamp (by omega)) ?_
    refine J_gets (x := .ref (3000 + 14)) dX6_put_107 el_X6_145 (x_word 14 (by decide)) ?_
    refine J_acmpW_ne (i := w) (j := 14) (tgt := 121) dX6_put_110 (by decide) (by omega) (by omega) (fun c10 => ?_) (fun c10 => ?_)
    · refine J_aload_n dX6_put_121 rfl 0 rfl ?_
      refine J_eVX (z := mX6_putWhom) (As := []) (rest := []) (ci := 6) (x := (f_pwh v ac rl w).1) (w := (f_pwh v ac rl w).2) dX6_put_122 ml_X6_130 ok_X6_putWhom iv_X6_putWhom (by decide) (i600 hI) rfl rfl rfl rfl (Nat.le_of_ble_eq_true rfl) (k_X6_putWhom_w hI v u ac rl w hac hi hrl hr hw hwd) ?_
      exact J_iret dX6_put_125 rfl ⟨_, rfl, rfl, by unfold f_putW; rw [if_neg c1, if_neg c2, if_neg c3, if_neg c4, if_neg c5, if_neg c7, if_neg c8, if_pos c9, if_neg c10], by unfold f_putW; rw [if_neg c1, if_neg c2, if_neg c3, if_neg c4, if_neg c5, if_neg c7, if_neg c8, if_pos c9, if_neg c10]⟩
    · refine J_aload_n dX6_put_113 rfl 0 rfl ?_
      refine J_bipush (x := 6) dX6_put_114 (by decide) ?_
      refine J_puti (ci := 6) (j := 5) dX6_put_116 fl_X6_57 (i600 hI) rfl rfl (fun q h => by cases h; rfl) rfl ?_
      refine J_iconst (x := 0) dX6_put_119 (by decide) ?_
      exact J_iret dX6_put_120 rfl ⟨_, rfl, rfl, by unfold f_putW; rw [if_neg c1, if_neg c2, if_neg c3, if_neg c4, if_neg c5, if_neg c7, if_neg c8, if_pos c9, if_pos c10], by unfold f_putW; rw [if_neg c1, if_neg c2, if_neg c3, if_neg c4, if_neg c5, if_neg c7, if_neg c8, if_pos c9, if_pos c10]⟩
  refine J_tableOut (tgt := 126) dX6_put_4 (sw_no 7 (by omega) (fun k hk => by match k, hk with | 0, _ => exact c1 | 1, _ => exact c2 | 2, _ => exact c3 | 3, _ => exact c4 | 4, _ => exact c5 | 5, _ => exact c7 | 6, _ => exact c8 | 7, _ => exact c9 | k + 8, hk => omega)) (by decide) ?_
  refine J_aload_n dX6_put_126 rfl 0 rfl ?_
  refine J_eVX (z := mX6_putLineEnd) (As := []) (rest := []) (ci := 6) (x := (f_ple v).1) (w := (f_ple v).2) dX6_put_127 ml_X6_148 ok_X6_putLineEnd iv_X6_putLineEnd (by decide) (i600 hI) rfl rfl rfl rfl (Nat.le_of_ble_eq_true rfl) (k_X6_putLineEnd hI v u) ?_
  exact J_iret dX6_put_130 rfl ⟨_, rfl, rfl, by unfold f_putW; rw [if_neg c1, if_neg c2, if_neg c3, if_neg c4, if_neg c5, if_neg c7, if_neg c8, if_neg c9], by unfold f_putW; rw [if_neg c1, if_neg c2, if_neg c3, if_neg c4, if_neg c5, if_neg c7, if_neg c8, if_neg c9]⟩
theorem J_acmpN_ne {l : Launch} {y : fr_M} {I : List Nat} {v : fr_V} {u : fr_U} {Q : Option Value → fr_V → fr_U → Prop} {pc : Nat} {lv : List (Nat × Value)} {st : List Value} {j tgt : Nat} {off : Int} (d : decode y.2.1 pc = .ok (.if_acmp .ne off, 3)) (ht : (pc : Int) + off = (tgt : Int)) (k : J l y I v u tgt lv st Q) : J l y I v u pc lv (.ref j :: .null :: st) Q := by
  intro L cA D p e s m args below meth c H locs ls C hP hD hS hl
  exact lv_acmp_ne (rx := none) (ry := some (L j)) C.1 C.2.1 d ht (fun h => k L cA D p e s m args below meth c H locs ls C hP hD hS hl) (fun h => by cases h)
def f_putN (v : fr_V) (ac : Nat) (rl : Nat) (ow : Nat) : Int32 × fr_V := if (v 600 5) = 0 then ((f_plwN v).1, (f_plwN v).2) else if (v 600 5) = 1 then ((f_pam v ac rl ow).1, (f_pam v ac rl ow).2) else if (v 600 5) = 2 then ((f_pwhN v).1, (f_pwhN v).2) else if (v 600 5) = 3 then ((f_pfr v ow).1, (f_pfr v ow).2) else if (v 600 5) = 4 then (1, up2 v 600 5 5) else if (v 600 5) = 5 then ((f_pup v ac rl ow).1, (f_pup v ac rl ow).2) else if (v 600 5) = 6 then ((f_pcl v ac rl ow).1, (f_pcl v ac rl ow).2) else if (v 600 5) = 7 then ((f_pwhN v).1, (f_pwhN v).2) else ((f_ple v).1, (f_ple v).2)
theorem k_X6_put_n {l : Launch} {I : List Nat} (hI : fr_I I) (v : fr_V) (u : fr_U) (ac : Nat) (rl : Nat) (ow : Nat) (hac : ac = 10 ∨ ac = 20) (hi : v 600 3 = nI ac) (hrl : rl < 24) (hr : v 600 7 = nI (lnB ac + rl)) (how : ow < 15) (ho : v 600 6 = nI (3000 + ow)) (hwd : v 600 13 = (-1)) : Con l mX6_put I v u [.ref 600] (QX u (fun a b => a = (f_putN v ac rl ow).1 ∧ b = (f_putN v ac rl ow).2)) := by
  refine Con.of (by decide) (Nat.le_of_ble_eq_true rfl) ?_
  show J l mX6_put I v u 0 [(0, .ref 600)] [] _
  refine J_aload_n dX6_put_0 rfl 0 rfl ?_
  refine J_gete (ci := 6) (j := 5) (x := v 600 5) dX6_put_1 fl_X6_57 (i600 hI) rfl rfl rfl ?_
  by_cases c1 : v 600 5 = 0
  · refine J_tableIn (off := 48) (tgt := 52) dX6_put_4 (by rw [c1]; decide) (by rw [c1]; decide) (by rw [c1]; decide) (by decide) ?_
    refine J_aload_n dX6_put_52 rfl 0 rfl ?_
    refine J_eVX (z := mX6_putLineWord) (As := []) (rest := []) (ci := 6) (x := (f_plwN v).1) (w := (f_plwN v).2) dX6_put_53 ml_X6_124 ok_X6_putLineWord iv_X6_putLineWord (by decide) (i600 hI) rfl rfl rfl rfl (Nat.le_of_ble_eq_true rfl) (k_X6_putLineWord_n hI v u hwd) ?_
    exact J_iret dX6_put_56 rfl ⟨_, rfl, rfl, by unfold f_putN; rw [if_pos c1], by unfold f_putN; rw [if_pos c1]⟩
  by_cases c2 : v 600 5 = 1
  · refine J_tableIn (off := 53) (tgt := 57) dX6_put_4 (by rw [c2]; decide) (by rw [c2]; decide) (by rw [c2]; decide) (by decide) ?_
    refine J_aload_n dX6_put_57 rfl 0 rfl ?_
    refine J_eVX (z := mX6_putAmount) (As := []) (rest := []) (ci := 6) (x := (f_pam v ac rl ow).1) (w := (f_pam v ac rl ow).2) dX6_put_58 ml_X6_127 ok_X6_putAmount iv_X6_putAmount (by decide) (i600 hI) rfl rfl rfl rfl (Nat.le_of_ble_eq_true rfl) (k_X6_putAmount hI v u ac rl ow hac hi hrl hr how ho) ?_
    exact J_iret dX6_put_61 rfl ⟨_, rfl, rfl, by unfold f_putN; rw [if_neg c1, if_pos c2], by unfold f_putN; rw [if_neg c1, if_pos c2]⟩
  by_cases c3 : v 600 5 = 2
  · refine J_tableIn (off := 58) (tgt := 62) dX6_put_4 (by rw [c3]; decide) (by rw [c3]; decide) (by rw [c3]; decide) (by decide) ?_
    refine J_aload_n dX6_put_62 rfl 0 rfl ?_
    refine J_eVX (z := mX6_putWhom) (As := []) (rest := []) (ci := 6) (x := (f_pwhN v).1) (w := (f_pwhN v).2) dX6_put_63 ml_X6_130 ok_X6_putWhom iv_X6_putWhom (by decide) (i600 hI) rfl rfl rfl rfl (Nat.le_of_ble_eq_true rfl) (k_X6_putWhom_n hI v u hwd) ?_
    exact J_iret dX6_put_66 rfl ⟨_, rfl, rfl, by unfold f_putN; rw [if_neg c1, if_neg c2, if_pos c3], by unfold f_putN; rw [if_neg c1, if_neg c2, if_pos c3]⟩
  by_cases c4 : v 600 5 = 3
  · refine J_tableIn (off := 63) (tgt := 67) dX6_put_4 (by rw [c4]; decide) (by rw [c4]; decide) (by rw [c4]; decide) (by decide) ?_
    refine J_aload_n dX6_put_67 rfl 0 rfl ?_
    refine J_eVX (z := mX6_putFrom) (As := []) (rest := []) (ci := 6) (x := (f_pfr v ow).1) (w := (f_pfr v ow).2) dX6_put_68 ml_X6_133 ok_X6_putFrom iv_X6_putFrom (by decide) (i600 hI) rfl rfl rfl rfl (Nat.le_of_ble_eq_true rfl) (k_X6_putFrom hI v u ow how ho) ?_
    exact J_iret dX6_put_71 rfl ⟨_, rfl, rfl, by unfold f_putN; rw [if_neg c1, if_neg c2, if_neg c3, if_pos c4], by unfold f_putN; rw [if_neg c1, if_neg c2, if_neg c3, if_pos c4]⟩
  by_cases c5 : v 600 5 = 4
  · refine J_tableIn (off := 68) (tgt := 72) dX6_put_4 (by rw [c5]; decide) (by rw [c5]; decide) (by rw [c5]; decide) (by decide) ?_
    refine J_aload_n dX6_put_72 rfl 0 rfl ?_
    refine J_iconst (x := 5) dX6_put_73 (by decide) ?_
    refine J_puti (ci := 6) (j := 5) dX6_put_74 fl_X6_57 (i600 hI) rfl rfl (fun q h => by cases h; rfl) rfl ?_
    refine J_aload_n dX6_put_77 rfl 0 rfl ?_
    refine J_getn (ci := 6) (j := 13) dX6_put_78 fl_X6_82 (i600 hI) rfl rfl (by rw [show (up2 v 600 5 5) 600 13 = (-1) from hwd]; decide) ?_
    refine J_gets (x := .ref (3000 + 13)) dX6_put_81 el_X6_136 (x_word 13 (by decide)) ?_
    refine J_acmpN_ne (tgt := 91) dX6_put_84 (by decide) ?_
    refine J_iconst (x := 1) dX6_put_91 (by decide) ?_
    exact J_iret dX6_put_92 rfl ⟨_, rfl, rfl, by unfold f_putN; rw [if_neg c1, if_neg c2, if_neg c3, if_neg c4, if_pos c5], by unfold f_putN; rw [if_neg c1, if_neg c2, if_neg c3, if_neg c4, if_pos c5]⟩
  by_cases c6 : v 600 5 = 5
  · refine J_tableIn (off := 89) (tgt := 93) dX6_put_4 (by rw [c6]; decide) (by rw [c6]; decide) (by rw [c6]; decide) (by decide) ?_
    refine J_aload_n dX6_put_93 rfl 0 rfl ?_
    refine J_eVX (z := mX6_putUpTo) (As := []) (rest := []) (ci := 6) (x := (f_pup v ac rl ow).1) (w := (f_pup v ac rl ow).2) dX6_put_94 ml_X6_139 ok_X6_putUpTo iv_X6_putUpTo (by decide) (i600 hI) rfl rfl rfl rfl (Nat.le_of_ble_eq_true rfl) (k_X6_putUpTo hI v u ac rl ow hac hi hrl hr how ho) ?_
    exact J_iret dX6_put_97 rfl ⟨_, rfl, rfl, by unfold f_putN; rw [if_neg c1, if_neg c2, if_neg c3, if_neg c4, if_neg c5, if_pos c6], by unfold f_putN; rw [if_neg c1, if_neg c2, if_neg c3, if_neg c4, if_neg c5, if_pos c6]⟩
  by_cases c7 : v 600 5 = 6
  · refine J_tableIn (off := 94) (tgt := 98) dX6_put_4 (by rw [c7]; decide) (by rw [c7]; decide) (by rw [c7]; decide) (by decide) ?_
    refine J_aload_n dX6_put_98 rfl 0 rfl ?_
    refine J_eVX (z := mX6_putClass) (As := []) (rest := []) (ci := 6) (x := (f_pcl v ac rl ow).1) (w := (f_pcl v ac rl ow).2) dX6_put_99 ml_X6_142 ok_X6_putClass iv_X6_putClass (by decide) (i600 hI) rfl rfl rfl rfl (Nat.le_of_ble_eq_true rfl) (k_X6_putClass hI v u ac rl ow hac hi hrl hr how ho) ?_
    exact J_iret dX6_put_102 rfl ⟨_, rfl, rfl, by unfold f_putN; rw [if_neg c1, if_neg c2, if_neg c3, if_neg c4, if_neg c5, if_neg c6, if_pos c7], by unfold f_putN; rw [if_neg c1, if_neg c2, if_neg c3, if_neg c4, if_neg c5, if_neg c6, if_pos c7]⟩
  by_cases c8 : v 600 5 = 7
  · refine J_tableIn (off := 99) (tgt := 103) dX6_put_4 (by rw [c8]; decide) (by rw [c8]; decide) (by rw [c8]; decide) (by decide) ?_
    refine J_aload_n dX6_put_103 rfl 0 rfl ?_
    refine J_getn (ci := 6) (j := 13) dX6_put_104 fl_X6_82 (i600 hI) rfl rfl (by rw [show v 600 13 = (-1) from hwd]; decide) ?_
    refine J_gets (x := .ref (3000 + 14)) dX6_put_107 el_X6_145 (x_word 14 (by decide)) ?_
    refine J_acmpN_ne (tgt := 121) dX6_put_110 (by decide) ?_
    refine J_aload_n dX6_put_121 rfl 0 rfl ?_
    refine J_eVX (z := mX6_putWhom) (As := []) (rest := []) (ci := 6) (x := (f_pwhN v).1) (w := (f_pwhN v).2) dX6_put_122 ml_X6_130 ok_X6_putWhom iv_X6_putWhom (by decide) (i600 hI) rfl rfl rfl rfl (Nat.le_of_ble_eq_true rfl) (k_X6_putWhom_n hI v u hwd) ?_
    exact J_iret dX6_put_125 rfl ⟨_, rfl, rfl, by unfold f_putN; rw [if_neg c1, if_neg c2, if_neg c3, if_neg c4, if_neg c5, if_neg c6, if_neg c7, if_pos c8], by unfold f_putN; rw [if_neg c1, if_neg c2, if_neg c3, if_neg c4, if_neg c5, if_neg c6, if_neg c7, if_pos c8]⟩
  refine J_tableOut (tgt := 126) dX6_put_4 (sw_no 7 (by omega) (fun k hk => by match k, hk with | 0, _ => exact c1 | 1, _ => exact c2 | 2, _ => exact c3 | 3, _ => exact c4 | 4, _ => exact c5 | 5, _ => exact c6 | 6, _ => exact c7 | 7, _ => exact c8 | k + 8, hk => omega)) (by decide) ?_
  refine J_aload_n dX6_put_126 rfl 0 rfl ?_
  refine J_eVX (z := mX6_putLineEnd) (As := []) (rest := []) (ci := 6) (x := (f_ple v).1) (w := (f_ple v).2) dX6_put_127 ml_X6_148 ok_X6_putLineEnd iv_X6_putLineEnd (by decide) (i600 hI) rfl rfl rfl rfl (Nat.le_of_ble_eq_true rfl) (k_X6_putLineEnd hI v u) ?_
  exact J_iret dX6_put_130 rfl ⟨_, rfl, rfl, by unfold f_putN; rw [if_neg c1, if_neg c2, if_neg c3, if_neg c4, if_neg c5, if_neg c6, if_neg c7, if_neg c8], by unfold f_putN; rw [if_neg c1, if_neg c2, if_neg c3, if_neg c4, if_neg c5, if_neg c6, if_neg c7, if_neg c8]⟩
def mOf (v : fr_V) (ac : Nat) : Nat := (v ac 1).toNatClampNeg
def rlOf (v : fr_V) (ac : Nat) : Nat := (v 600 7).toNatClampNeg - lnB ac
def owOf (v : fr_V) : Nat := (v 600 6).toNatClampNeg - 3000
def woOf (v : fr_V) : Option Nat := if v 600 13 < 0 then none else some ((v 600 13).toNatClampNeg - 3000)
def f_put6 (v : fr_V) (ac : Nat) : Int32 × fr_V := match woOf v with
  | none => f_putN v ac (rlOf v ac) (owOf v)
  | some w => f_putW v ac (mOf v ac) (rlOf v ac) (owOf v) w
def rd6 (ac E : Nat) (v : fr_V) : Prop := v 600 3 = nI ac ∧ v 600 2 = nI E ∧ (∃ m, m ≤ 24 ∧ v ac 1 = nI m) ∧ (∃ rl, rl < 24 ∧ v 600 7 = nI (lnB ac + rl)) ∧ ∃ ow, ow < 15 ∧ v 600 6 = nI (3000 + ow)
def pk6 (ac : Nat) (z y : fr_V) : Prop := (∀ c, c ≠ 600 → c ≠ ac → c ≠ ac + 3 → (∀ i, i < 24 → c ≠ lnB ac + i) → y c = z c) ∧ ∀ j, (j < 4 ∨ 8 < j) → y 600 j = z 600 j
def pp6 (ac E : Nat) (z y : fr_V) : Prop := rd6 ac E y ∧ pk6 ac z y
section PP6
variable {ac E : Nat} {z y : fr_V}
theorem pp6.f (h : pp6 ac E z y) (hac : ac = 10 ∨ ac = 20) {j : Nat} {x : Int32} (hj : j = 4 ∨ j = 5 ∨ j = 8) : pp6 ac E z (up2 y 600 j x) := by
  obtain ⟨⟨a1, a2, a3, a4, a5⟩, b1, b2⟩ := h
  have e : ∀ i, i ≠ j → up2 y 600 j x 600 i = y 600 i := fun i hi => by rw [up2_self, pk_un hi]
  refine ⟨⟨by rw [e 3 (by omega)]; exact a1, by rw [e 2 (by omega)]; exact a2, by rw [up2_ne (by omega)]; exact a3, by rw [e 7 (by omega)]; exact a4, by rw [e 6 (by omega)]; exact a5⟩, fun c h1 h2 h3 h4 => ?_, fun i hi => ?_⟩
  · rw [up2_ne h1]; exact b1 c h1 h2 h3 h4
  · rw [e i (by omega)]; exact b2 i hi
theorem pp6.o (h : pp6 ac E z y) (hac : ac = 10 ∨ ac = 20) {w : Nat} (hw : w < 15) : pp6 ac E z (up2 y 600 6 (nI (3000 + w))) := by
  obtain ⟨⟨a1, a2, a3, a4, a5⟩, b1, b2⟩ := h
  have e : ∀ i, i ≠ 6 → up2 y 600 6 (nI (3000 + w)) 600 i = y 600 i := fun i hi => by rw [up2_self, pk_un hi]
  refine ⟨⟨by rw [e 3 (by omega)]; exact a1, by rw [e 2 (by omega)]; exact a2, by rw [up2_ne (by omega)]; exact a3, by rw [e 7 (by omega)]; exact a4, ⟨w, hw, by rw [up2_self, pk_us]⟩⟩, fun c h1 h2 h3 h4 => ?_, fun i hi => ?_⟩
  · rw [up2_ne h1]; exact b1 c h1 h2 h3 h4
  · rw [e i (by omega)]; exact b2 i hi
theorem pp6.r (h : pp6 ac E z y) (hac : ac = 10 ∨ ac = 20) {m : Nat} (hm : m < 24) : pp6 ac E z (up2 y 600 7 (nI (lnB ac + m))) := by
  obtain ⟨⟨a1, a2, a3, a4, a5⟩, b1, b2⟩ := h
  have e : ∀ i, i ≠ 7 → up2 y 600 7 (nI (lnB ac + m)) 600 i = y 600 i := fun i hi => by rw [up2_self, pk_un hi]
  refine ⟨⟨by rw [e 3 (by omega)]; exact a1, by rw [e 2 (by omega)]; exact a2, by rw [up2_ne (by omega)]; exact a3, ⟨m, hm, by rw [up2_self, pk_us]⟩, by rw [e 6 (by omega)]; exact a5⟩, fun c h1 h2 h3 h4 => ?_, fun i hi => ?_⟩
  · rw [up2_ne h1]; exact b1 c h1 h2 h3 h4
  · rw [e i (by omega)]; exact b2 i hi
theorem pp6.c (h : pp6 ac E z y) (hac : ac = 10 ∨ ac = 20) {k j : Nat} {x : Int32} (hk : k = ac + 3 ∨ ∃ i, i < 24 ∧ k = lnB ac + i) : pp6 ac E z (up2 y k j x) := by
  obtain ⟨⟨a1, a2, a3, a4, a5⟩, b1, b2⟩ := h
  have hk2 : k ≠ 600 ∧ k ≠ ac := by
    rcases hk with h | ⟨i, hi, h⟩
    · omega
    · have := ln_lt hac hi; omega
  have e : up2 y k j x 600 = y 600 := up2_ne (fun q => hk2.1 q.symm)
  refine ⟨⟨by rw [e]; exact a1, by rw [e]; exact a2, by rw [up2_ne (fun q => hk2.2 q.symm)]; exact a3, by rw [e]; exact a4, by rw [e]; exact a5⟩, fun c h1 h2 h3 h4 => ?_, fun i hi => by rw [e]; exact b2 i hi⟩
  rw [up2_ne ?_]
  · exact b1 c h1 h2 h3 h4
  · intro q
    rcases hk with h | ⟨i, hi, h⟩
    · exact h3 (q.trans h)
    · exact h4 i hi (q.trans h)
theorem pp6.m (h : pp6 ac E z y) (hac : ac = 10 ∨ ac = 20) {m : Nat} (hm : m < 24) : pp6 ac E z (up2 y ac 1 (nI m + 1)) := by
  obtain ⟨⟨a1, a2, a3, a4, a5⟩, b1, b2⟩ := h
  have e : up2 y ac 1 (nI m + 1) 600 = y 600 := up2_ne (by omega)
  refine ⟨⟨by rw [e]; exact a1, by rw [e]; exact a2, ⟨m + 1, by omega, by rw [up2_self, pk_us, nI_1]⟩, by rw [e]; exact a4, by rw [e]; exact a5⟩, fun c h1 h2 h3 h4 => ?_, fun i hi => by rw [e]; exact b2 i hi⟩
  rw [up2_ne h2]; exact b1 c h1 h2 h3 h4
theorem ple_pp (h : pp6 ac E z y) (hac : ac = 10 ∨ ac = 20) : pp6 ac E z (f_ple y).2 := by
  unfold f_ple
  split
  · exact (h.f hac (by decide)).f hac (by decide)
  · exact h
theorem pfr_pp (h : pp6 ac E z y) (hac : ac = 10 ∨ ac = 20) {ow : Nat} : pp6 ac E z (f_pfr y ow).2 := by
  unfold f_pfr
  exact (h.f hac (by decide)).f hac (by decide)
theorem pam_pp (h : pp6 ac E z y) (hac : ac = 10 ∨ ac = 20) {rl ow : Nat} (hrl : rl < 24) : pp6 ac E z (f_pam y ac rl ow).2 := by
  unfold f_pam
  split
  · split
    · exact (h.c hac (Or.inl rfl)).f hac (by decide)
    · exact (h.c hac (Or.inr ⟨rl, hrl, rfl⟩)).f hac (by decide)
  · exact h
theorem pup_pp (h : pp6 ac E z y) (hac : ac = 10 ∨ ac = 20) {rl ow : Nat} (hrl : rl < 24) : pp6 ac E z (f_pup y ac rl ow).2 := by
  unfold f_pup
  repeat' split
  all_goals first | exact h | exact ((h.c hac (Or.inr ⟨rl, hrl, rfl⟩)).c hac (Or.inr ⟨rl, hrl, rfl⟩)).f hac (by decide)
theorem pcl_pp (h : pp6 ac E z y) (hac : ac = 10 ∨ ac = 20) {rl ow : Nat} (hrl : rl < 24) : pp6 ac E z (f_pcl y ac rl ow).2 := by
  unfold f_pcl
  repeat' split
  all_goals first | exact h | exact (h.c hac (Or.inr ⟨rl, hrl, rfl⟩)).f hac (by decide)
theorem pwh_pp (h : pp6 ac E z y) (hac : ac = 10 ∨ ac = 20) {rl w : Nat} (hrl : rl < 24) (hw : w < 15) : pp6 ac E z (f_pwh y ac rl w).2 := by
  unfold f_pwh
  repeat' split
  all_goals first | exact h | exact ple_pp h hac | exact (h.o hac hw).f hac (by decide) | exact ((h.o hac hw).c hac (Or.inr ⟨rl, hrl, rfl⟩)).f hac (by decide)
theorem pwhN_pp (h : pp6 ac E z y) (hac : ac = 10 ∨ ac = 20) : pp6 ac E z (f_pwhN y).2 := by
  unfold f_pwhN
  repeat' split
  all_goals first | exact h | exact ple_pp h hac
theorem plw_pp (h : pp6 ac E z y) (hac : ac = 10 ∨ ac = 20) {m w : Nat} (hm : m ≤ 24) (hw : w < 15) : pp6 ac E z (f_plw y ac m w).2 := by
  unfold f_plw
  have g : m < 24 → ∀ x : Int32, pp6 ac E z (up2 (up2 (up2 (up2 (up2 (up2 (up2 (up2 (up2 (up2 (up2 (up2 y 600 6 (nI (3000 + w))) 600 7 (nI (lnB ac + m))) (lnB ac + m) 0 (nI (3000 + w))) (lnB ac + m) 1 0) (lnB ac + m) 2 (-1)) (lnB ac + m) 3 (-1)) (lnB ac + m) 4 0) (lnB ac + m) 5 (-1)) (lnB ac + m) 6 (-1)) (lnB ac + m) 7 0) ac 1 (nI m + 1)) 600 5 x) := by
    intro hm9 x
    have hk : ∃ i, i < 24 ∧ lnB ac + m = lnB ac + i := ⟨m, hm9, rfl⟩
    exact (((((((((((h.o hac hw).r hac hm9).c hac (Or.inr hk)).c hac (Or.inr hk)).c hac (Or.inr hk)).c hac (Or.inr hk)).c hac (Or.inr hk)).c hac (Or.inr hk)).c hac (Or.inr hk)).c hac (Or.inr hk)).m hac hm9).f hac (by decide)
  repeat' split
  all_goals first | exact h.o hac hw | exact (h.o hac hw).f hac (by decide) | exact g (nz_lt (b := 24) (by omega) (by omega) (by assumption)) _
theorem put6_pp (h : rd6 ac E y) (hac : ac = 10 ∨ ac = 20) (hwo : ∀ w, woOf y = some w → w < 15) : pp6 ac E y (f_put6 y ac).2 := by
  have h0 : pp6 ac E y y := ⟨h, fun _ _ _ _ _ => rfl, fun _ _ => rfl⟩
  obtain ⟨a1, a2, ⟨m, hm, a3⟩, ⟨rl, hrl, a4⟩, ⟨ow, how, a5⟩⟩ := h
  have e1 : mOf y ac = m := by unfold mOf; rw [a3, nI_clamp (by omega)]
  have e2 : rlOf y ac = rl := by unfold rlOf; have := ln_lt hac hrl; rw [a4, nI_clamp (by omega)]; omega
  unfold f_put6
  split
  · rw [e2]
    unfold f_putN
    by_cases c0 : y 600 5 = 0
    · rw [if_pos c0]; unfold f_plwN; exact h0
    rw [if_neg c0]
    by_cases c1 : y 600 5 = 1
    · rw [if_pos c1]; exact pam_pp h0 hac hrl
    rw [if_neg c1]
    by_cases c2 : y 600 5 = 2
    · rw [if_pos c2]; exact pwhN_pp h0 hac
    rw [if_neg c2]
    by_cases c3 : y 600 5 = 3
    · rw [if_pos c3]; exact pfr_pp h0 hac
    rw [if_neg c3]
    by_cases c4 : y 600 5 = 4
    · rw [if_pos c4]
      exact h0.f hac (by decide)
    rw [if_neg c4]
    by_cases c5 : y 600 5 = 5
    · rw [if_pos c5]; exact pup_pp h0 hac hrl
    rw [if_neg c5]
    by_cases c6 : y 600 5 = 6
    · rw [if_pos c6]; exact pcl_pp h0 hac hrl
    rw [if_neg c6]
    by_cases c7 : y 600 5 = 7
    · rw [if_pos c7]
      exact pwhN_pp h0 hac
    rw [if_neg c7]
    exact ple_pp h0 hac
  · rename_i w hw
    have hw9 := hwo w hw
    rw [e1, e2]
    unfold f_putW
    by_cases c0 : y 600 5 = 0
    · rw [if_pos c0]; exact plw_pp h0 hac hm hw9
    rw [if_neg c0]
    by_cases c1 : y 600 5 = 1
    · rw [if_pos c1]; exact pam_pp h0 hac hrl
    rw [if_neg c1]
    by_cases c2 : y 600 5 = 2
    · rw [if_pos c2]; exact pwh_pp h0 hac hrl hw9
    rw [if_neg c2]
    by_cases c3 : y 600 5 = 3
    · rw [if_pos c3]; exact pfr_pp h0 hac
    rw [if_neg c3]
    by_cases c4 : y 600 5 = 4
    · rw [if_pos c4]
      split <;> exact h0.f hac (by decide)
    rw [if_neg c4]
    by_cases c5 : y 600 5 = 5
    · rw [if_pos c5]; exact pup_pp h0 hac hrl
    rw [if_neg c5]
    by_cases c6 : y 600 5 = 6
    · rw [if_pos c6]; exact pcl_pp h0 hac hrl
    rw [if_neg c6]
    by_cases c7 : y 600 5 = 7
    · rw [if_pos c7]
      by_cases e : w = 14
      · rw [if_pos e]; exact h0.f hac (by decide)
      · rw [if_neg e]; exact pwh_pp h0 hac hrl hw9
    rw [if_neg c7]
    exact ple_pp h0 hac
end PP6
theorem k_X6_put {l : Launch} {I : List Nat} (hI : fr_I I) (v : fr_V) (u : fr_U) (ac E : Nat) (hac : ac = 10 ∨ ac = 20) (h : rd6 ac E v) (hwo : ∀ w, woOf v = some w → w < 15 ∧ v 600 13 = nI (3000 + w)) (hwn : woOf v = none → v 600 13 = (-1)) : Con l mX6_put I v u [.ref 600] (QX u (fun a b => a = (f_put6 v ac).1 ∧ b = (f_put6 v ac).2)) := by
  obtain ⟨a1, a2, ⟨m, hm, a3⟩, ⟨rl, hrl, a4⟩, ⟨ow, how, a5⟩⟩ := h
  have e1 : mOf v ac = m := by unfold mOf; rw [a3, nI_clamp (by omega)]
  have e2 : rlOf v ac = rl := by unfold rlOf; have := ln_lt hac hrl; rw [a4, nI_clamp (by omega)]; omega
  have e3 : owOf v = ow := by unfold owOf; rw [a5, nI_clamp (by omega)]; omega
  unfold f_put6
  cases hq : woOf v with
  | none =>
    dsimp only
    rw [e2, e3]
    exact k_X6_put_n hI v u ac rl ow hac a1 hrl a4 how a5 (hwn hq)
  | some w =>
    dsimp only
    rw [e1, e2, e3]
    exact k_X6_put_w hI v u ac m rl ow w hac a1 a3 hm hrl a4 how a5 (hwo w hq).1 (hwo w hq).2
