theorem mT_up {M : Nat → Nat → Bool} {o j : Nat} : mT (upM M o j) o = mT M o := by
  funext k i
  unfold mT
  by_cases e : k = o
  · rw [if_pos e, if_pos e]
  · rw [if_neg e, if_neg e, upM_ne e]
theorem c_X4 {l : Launch} {L : Nat → Nat} {cA : Nat → ClassId} {D : va_G} {I : List Nat} {M : Nat → Nat → Bool} {v : fr_V} {u : fr_U} {o : Nat} : KCon l nX4_init 0 L cA D [] I M v u [.ref o] M v u := by
  refine KCon.of (by decide) (Nat.le_of_ble_eq_true rfl) (fun A0 p e s m as below meth c C hA hA2 => ?_)
  show KJ l _ _ L cA D A0 p e s m as below meth c _ 0 0 [] I M v u 0 [(0, .ref o)] []
  refine K_aload_n C dX4_init_0 rfl 0 rfl ?_
  refine K_objInit C dX4_init_1 oi_X4_init oi_i oi_c ⟨Nat.le_of_ble_eq_true rfl, Nat.le_of_ble_eq_true rfl⟩ ?_
  exact K_vret C dX4_init_4 rfl (List.append_nil I).symm (fun _ _ => rfl) (fun _ _ => rfl) (fun _ _ => rfl)
theorem c_X6 {l : Launch} {L : Nat → Nat} {cA : Nat → ClassId} {D : va_G} {I : List Nat} {M : Nat → Nat → Bool} {v : fr_V} {u : fr_U} (ho : 600 ∈ I) (hf : fresh [601] M v u) : KCon l nX6_init 500 L cA D [601] I M v u [.ref 600] (mT M 600) (up2 v 600 15 (-1)) u := by
  refine KCon.of (by decide) (Nat.le_of_ble_eq_true rfl) (fun A0 p e s m as below meth c C hA hA2 => ?_)
  show KJ l _ _ L cA D A0 p e s m as below meth c _ 0 0 [601] I M v u 0 [(0, .ref 600)] []
  refine K_aload_n C dX6_init_0 rfl 0 rfl ?_
  refine K_objInit C dX6_init_1 oi_X6_init oi_i oi_c ⟨Nat.le_of_ble_eq_true rfl, Nat.le_of_ble_eq_true rfl⟩ ?_
  refine K_aload_n C dX6_init_4 rfl 0 rfl ?_
  refine K_sipush (x := 500) C dX6_init_5 (by decide) ?_
  refine K_newa_int (k := 601) (n := 500) (ce' := 1) (sl' := 500) C dX6_init_8 aw_int rfl (fun j => (hf 601 (by decide)).1 j) (by decide) (by decide) (by decide) rfl rfl ⟨by decide, by decide⟩ ?_
  refine K_putr (ci := 6) (j := 0) (t := 601) C dX6_init_10 fl_X6_9 (List.mem_append_left _ ho) rfl rfl rfl ⟨rfl, fun q h => by cases h; exact ⟨rfl, rfl⟩⟩ rfl rfl ?_
  refine K_aload_n C dX6_init_13 rfl 0 rfl ?_
  refine K_iconst (x := (-1)) C dX6_init_14 (by decide) ?_
  refine K_puti (ci := 6) (j := 15) C dX6_init_15 fl_X6_15 (List.mem_append_left _ ho) rfl rfl (Or.inl (fun q h => by cases h; rfl)) rfl ?_
  refine K_full (o := 600) (ci := 6) rfl (by decide) (fun j hj h1 => ?_) ?_
  · rcases (show j = 0 ∨ j = 1 ∨ j = 2 ∨ j = 3 ∨ j = 4 ∨ j = 5 ∨ j = 6 ∨ j = 7 ∨ j = 8 ∨ j = 9 ∨ j = 10 ∨ j = 11 ∨ j = 12 ∨ j = 13 ∨ j = 14 ∨ j = 15 from by have h9 : j < 16 := hj; omega) with rfl | rfl | rfl | rfl | rfl | rfl | rfl | rfl | rfl | rfl | rfl | rfl | rfl | rfl | rfl | rfl
    all_goals first | rfl | exact absurd h1 (by decide)
  exact K_vret C dX6_init_18 rfl (by simp only [List.append_assoc, List.cons_append, List.nil_append, List.append_nil]) (fun _ _ => by simp only [mT_up]) (fun _ _ => rfl) (fun _ _ => rfl)
theorem c_X5 {l : Launch} {L : Nat → Nat} {cA : Nat → ClassId} {D : va_G} {I : List Nat} {M : Nat → Nat → Bool} {v : fr_V} {u : fr_U} (ho : 500 ∈ I) (hf : fresh [501, 502] M v u) : KCon l nX5_init 24 L cA D [501, 502] I M v u [.ref 500] (mT M 500) v u := by
  refine KCon.of (by decide) (Nat.le_of_ble_eq_true rfl) (fun A0 p e s m as below meth c C hA hA2 => ?_)
  show KJ l _ _ L cA D A0 p e s m as below meth c _ 0 0 [501, 502] I M v u 0 [(0, .ref 500)] []
  refine K_aload_n C dX5_init_0 rfl 0 rfl ?_
  refine K_objInit C dX5_init_1 oi_X5_init oi_i oi_c ⟨Nat.le_of_ble_eq_true rfl, Nat.le_of_ble_eq_true rfl⟩ ?_
  refine K_aload_n C dX5_init_4 rfl 0 rfl ?_
  refine K_bipush (x := 12) C dX5_init_5 (by decide) ?_
  refine K_newa_int (k := 501) (n := 12) (ce' := 1) (sl' := 12) C dX5_init_7 aw_int rfl (fun j => (hf 501 (by decide)).1 j) (by decide) (by decide) (by decide) rfl rfl ⟨by decide, by decide⟩ ?_
  refine K_putr (ci := 5) (j := 0) (t := 501) C dX5_init_9 fl_X5_9 (List.mem_append_left _ ho) rfl rfl rfl ⟨rfl, fun q h => by cases h; exact ⟨rfl, rfl⟩⟩ rfl rfl ?_
  refine K_aload_n C dX5_init_12 rfl 0 rfl ?_
  refine K_bipush (x := 12) C dX5_init_13 (by decide) ?_
  refine K_newa_int (k := 502) (n := 12) (ce' := 2) (sl' := 24) C dX5_init_15 aw_int rfl (fun j => (hf 502 (by decide)).1 j) (by decide) (by decide) (by decide) rfl rfl ⟨by decide, by decide⟩ ?_
  refine K_putr (ci := 5) (j := 1) (t := 502) C dX5_init_17 fl_X5_15 (List.mem_append_left _ (List.mem_append_left _ ho)) rfl rfl rfl ⟨rfl, fun q h => by cases h; exact ⟨rfl, rfl⟩⟩ rfl rfl ?_
  refine K_full (o := 500) (ci := 5) rfl (by decide) (fun j hj h1 => ?_) ?_
  · rcases (show j = 0 ∨ j = 1 ∨ j = 2 from by have h9 : j < 3 := hj; omega) with rfl | rfl | rfl
    all_goals first | rfl | exact absurd h1 (by decide)
  exact K_vret C dX5_init_20 rfl (by simp only [List.append_assoc, List.cons_append, List.nil_append, List.append_nil]) (fun _ _ => by simp only [mT_up]) (fun _ _ => rfl) (fun _ _ => rfl)
theorem c_X2 {l : Launch} {L : Nat → Nat} {cA : Nat → ClassId} {D : va_G} {I : List Nat} {M : Nat → Nat → Bool} {v : fr_V} {u : fr_U} (ho : 200 ∈ I) (hf : fresh [201, 202, 203, 205, 210] M v u) : KCon l nX2_init 60 L cA D [201, 202, 203, 205, 210] I M v u [.ref 200] (mT M 200) v u := by
  refine KCon.of (by decide) (Nat.le_of_ble_eq_true rfl) (fun A0 p e s m as below meth c C hA hA2 => ?_)
  show KJ l _ _ L cA D A0 p e s m as below meth c _ 0 0 [201, 202, 203, 205, 210] I M v u 0 [(0, .ref 200)] []
  refine K_aload_n C dX2_init_0 rfl 0 rfl ?_
  refine K_objInit C dX2_init_1 oi_X2_init oi_i oi_c ⟨Nat.le_of_ble_eq_true rfl, Nat.le_of_ble_eq_true rfl⟩ ?_
  refine K_aload_n C dX2_init_4 rfl 0 rfl ?_
  refine K_bipush (x := 12) C dX2_init_5 (by decide) ?_
  refine K_newa_int (k := 201) (n := 12) (ce' := 1) (sl' := 12) C dX2_init_7 aw_int rfl (fun j => (hf 201 (by decide)).1 j) (by decide) (by decide) (by decide) rfl rfl ⟨by decide, by decide⟩ ?_
  refine K_putr (ci := 2) (j := 0) (t := 201) C dX2_init_9 fl_X2_9 (List.mem_append_left _ ho) rfl rfl rfl ⟨rfl, fun q h => by cases h; exact ⟨rfl, rfl⟩⟩ rfl rfl ?_
  refine K_aload_n C dX2_init_12 rfl 0 rfl ?_
  refine K_bipush (x := 12) C dX2_init_13 (by decide) ?_
  refine K_newa_int (k := 202) (n := 12) (ce' := 2) (sl' := 24) C dX2_init_15 aw_int rfl (fun j => (hf 202 (by decide)).1 j) (by decide) (by decide) (by decide) rfl rfl ⟨by decide, by decide⟩ ?_
  refine K_putr (ci := 2) (j := 1) (t := 202) C dX2_init_17 fl_X2_15 (List.mem_append_left _ (List.mem_append_left _ ho)) rfl rfl rfl ⟨rfl, fun q h => by cases h; exact ⟨rfl, rfl⟩⟩ rfl rfl ?_
  refine K_aload_n C dX2_init_20 rfl 0 rfl ?_
  refine K_bipush (x := 12) C dX2_init_21 (by decide) ?_
  refine K_newa_int (k := 203) (n := 12) (ce' := 3) (sl' := 36) C dX2_init_23 aw_int rfl (fun j => (hf 203 (by decide)).1 j) (by decide) (by decide) (by decide) rfl rfl ⟨by decide, by decide⟩ ?_
  refine K_putr (ci := 2) (j := 2) (t := 203) C dX2_init_25 fl_X2_18 (List.mem_append_left _ (List.mem_append_left _ (List.mem_append_left _ ho))) rfl rfl rfl ⟨rfl, fun q h => by cases h; exact ⟨rfl, rfl⟩⟩ rfl rfl ?_
  refine K_aload_n C dX2_init_28 rfl 0 rfl ?_
  refine K_bipush (x := 12) C dX2_init_29 (by decide) ?_
  refine K_newa_int (k := 205) (n := 12) (ce' := 4) (sl' := 48) C dX2_init_31 aw_int rfl (fun j => (hf 205 (by decide)).1 j) (by decide) (by decide) (by decide) rfl rfl ⟨by decide, by decide⟩ ?_
  refine K_putr (ci := 2) (j := 4) (t := 205) C dX2_init_33 fl_X2_21 (List.mem_append_left _ (List.mem_append_left _ (List.mem_append_left _ (List.mem_append_left _ ho)))) rfl rfl rfl ⟨rfl, fun q h => by cases h; exact ⟨rfl, rfl⟩⟩ rfl rfl ?_
  refine K_aload_n C dX2_init_36 rfl 0 rfl ?_
  refine K_bipush (x := 12) C dX2_init_37 (by decide) ?_
  refine K_newa_int (k := 210) (n := 12) (ce' := 5) (sl' := 60) C dX2_init_39 aw_int rfl (fun j => (hf 210 (by decide)).1 j) (by decide) (by decide) (by decide) rfl rfl ⟨by decide, by decide⟩ ?_
  refine K_putr (ci := 2) (j := 9) (t := 210) C dX2_init_41 fl_X2_24 (List.mem_append_left _ (List.mem_append_left _ (List.mem_append_left _ (List.mem_append_left _ (List.mem_append_left _ ho))))) rfl rfl rfl ⟨rfl, fun q h => by cases h; exact ⟨rfl, rfl⟩⟩ rfl rfl ?_
  refine K_full (o := 200) (ci := 2) rfl (by decide) (fun j hj h1 => ?_) ?_
  · rcases (show j = 0 ∨ j = 1 ∨ j = 2 ∨ j = 3 ∨ j = 4 ∨ j = 5 ∨ j = 6 ∨ j = 7 ∨ j = 8 ∨ j = 9 ∨ j = 10 from by have h9 : j < 11 := hj; omega) with rfl | rfl | rfl | rfl | rfl | rfl | rfl | rfl | rfl | rfl | rfl
    all_goals first | rfl | exact absurd h1 (by decide)
  exact K_vret C dX2_init_44 rfl (by simp only [List.append_assoc, List.cons_append, List.nil_append, List.append_nil]) (fun _ _ => by simp only [mT_up]) (fun _ _ => rfl) (fun _ _ => rfl)
theorem c_X3 {l : Launch} {L : Nat → Nat} {cA : Nat → ClassId} {D : va_G} {I : List Nat} {M : Nat → Nat → Bool} {v : fr_V} {u : fr_U} (ho : 300 ∈ I) (hf : fresh [302, 304, 305, 306, 307, 308, 310] M v u) : KCon l nX3_init 224 L cA D [302, 304, 305, 306, 307, 308, 310] I M v u [.ref 300, .ref 100] (mT M 300) v u := by
  refine KCon.of (by decide) (Nat.le_of_ble_eq_true rfl) (fun A0 p e s m as below meth c C hA hA2 => ?_)
  show KJ l _ _ L cA D A0 p e s m as below meth c _ 0 0 [302, 304, 305, 306, 307, 308, 310] I M v u 0 [(0, .ref 300), (1, .ref 100)] []
  refine K_aload_n C dX3_init_0 rfl 0 rfl ?_
  refine K_objInit C dX3_init_1 oi_X3_init oi_i oi_c ⟨Nat.le_of_ble_eq_true rfl, Nat.le_of_ble_eq_true rfl⟩ ?_
  refine K_aload_n C dX3_init_4 rfl 0 rfl ?_
  refine K_bipush (x := 16) C dX3_init_5 (by decide) ?_
  refine K_anew_R (k := 302) (n := 16) (ce' := 1) (sl' := 16) C dX3_init_7 kl_X3_9 rfl (fun j => (hf 302 (by decide)).1 j) (by decide) (by decide) (by decide) rfl rfl ⟨by decide, by decide⟩ ?_
  refine K_putr (ci := 3) (j := 1) (t := 302) C dX3_init_10 fl_X3_11 (List.mem_append_left _ ho) rfl rfl rfl ⟨rfl, fun q h => by cases h; exact ⟨rfl, rfl⟩⟩ rfl rfl ?_
  refine K_aload_n C dX3_init_13 rfl 0 rfl ?_
  refine K_bipush (x := 40) C dX3_init_14 (by decide) ?_
  refine K_newa_int (k := 304) (n := 40) (ce' := 2) (sl' := 56) C dX3_init_16 aw_int rfl (fun j => (hf 304 (by decide)).1 j) (by decide) (by decide) (by decide) rfl rfl ⟨by decide, by decide⟩ ?_
  refine K_putr (ci := 3) (j := 3) (t := 304) C dX3_init_18 fl_X3_17 (List.mem_append_left _ (List.mem_append_left _ ho)) rfl rfl rfl ⟨rfl, fun q h => by cases h; exact ⟨rfl, rfl⟩⟩ rfl rfl ?_
  refine K_aload_n C dX3_init_21 rfl 0 rfl ?_
  refine K_bipush (x := 40) C dX3_init_22 (by decide) ?_
  refine K_newa_int (k := 305) (n := 40) (ce' := 3) (sl' := 96) C dX3_init_24 aw_int rfl (fun j => (hf 305 (by decide)).1 j) (by decide) (by decide) (by decide) rfl rfl ⟨by decide, by decide⟩ ?_
  refine K_putr (ci := 3) (j := 4) (t := 305) C dX3_init_26 fl_X3_21 (List.mem_append_left _ (List.mem_append_left _ (List.mem_append_left _ ho))) rfl rfl rfl ⟨rfl, fun q h => by cases h; exact ⟨rfl, rfl⟩⟩ rfl rfl ?_
  refine K_aload_n C dX3_init_29 rfl 0 rfl ?_
  refine K_bipush (x := 40) C dX3_init_30 (by decide) ?_
  refine K_newa_int (k := 306) (n := 40) (ce' := 4) (sl' := 136) C dX3_init_32 aw_int rfl (fun j => (hf 306 (by decide)).1 j) (by decide) (by decide) (by decide) rfl rfl ⟨by decide, by decide⟩ ?_
  refine K_putr (ci := 3) (j := 5) (t := 306) C dX3_init_34 fl_X3_24 (List.mem_append_left _ (List.mem_append_left _ (List.mem_append_left _ (List.mem_append_left _ ho)))) rfl rfl rfl ⟨rfl, fun q h => by cases h; exact ⟨rfl, rfl⟩⟩ rfl rfl ?_
  refine K_aload_n C dX3_init_37 rfl 0 rfl ?_
  refine K_bipush (x := 40) C dX3_init_38 (by decide) ?_
  refine K_newa_int (k := 307) (n := 40) (ce' := 5) (sl' := 176) C dX3_init_40 aw_int rfl (fun j => (hf 307 (by decide)).1 j) (by decide) (by decide) (by decide) rfl rfl ⟨by decide, by decide⟩ ?_
  refine K_putr (ci := 3) (j := 6) (t := 307) C dX3_init_42 fl_X3_27 (List.mem_append_left _ (List.mem_append_left _ (List.mem_append_left _ (List.mem_append_left _ (List.mem_append_left _ ho))))) rfl rfl rfl ⟨rfl, fun q h => by cases h; exact ⟨rfl, rfl⟩⟩ rfl rfl ?_
  refine K_aload_n C dX3_init_45 rfl 0 rfl ?_
  refine K_bipush (x := 40) C dX3_init_46 (by decide) ?_
  refine K_newa_int (k := 308) (n := 40) (ce' := 6) (sl' := 216) C dX3_init_48 aw_int rfl (fun j => (hf 308 (by decide)).1 j) (by decide) (by decide) (by decide) rfl rfl ⟨by decide, by decide⟩ ?_
  refine K_putr (ci := 3) (j := 7) (t := 308) C dX3_init_50 fl_X3_30 (List.mem_append_left _ (List.mem_append_left _ (List.mem_append_left _ (List.mem_append_left _ (List.mem_append_left _ (List.mem_append_left _ ho)))))) rfl rfl rfl ⟨rfl, fun q h => by cases h; exact ⟨rfl, rfl⟩⟩ rfl rfl ?_
  refine K_aload_n C dX3_init_53 rfl 0 rfl ?_
  refine K_bipush (x := 8) C dX3_init_54 (by decide) ?_
  refine K_newa_int (k := 310) (n := 8) (ce' := 7) (sl' := 224) C dX3_init_56 aw_int rfl (fun j => (hf 310 (by decide)).1 j) (by decide) (by decide) (by decide) rfl rfl ⟨by decide, by decide⟩ ?_
  refine K_putr (ci := 3) (j := 9) (t := 310) C dX3_init_58 fl_X3_33 (List.mem_append_left _ (List.mem_append_left _ (List.mem_append_left _ (List.mem_append_left _ (List.mem_append_left _ (List.mem_append_left _ (List.mem_append_left _ ho))))))) rfl rfl rfl ⟨rfl, fun q h => by cases h; exact ⟨rfl, rfl⟩⟩ rfl rfl ?_
  refine K_aload_n C dX3_init_61 rfl 0 rfl ?_
  refine K_aload_n C dX3_init_62 rfl 1 rfl ?_
  refine K_putr (ci := 3) (j := 0) (t := 100) C dX3_init_63 fl_X3_36 (List.mem_append_left _ (List.mem_append_left _ (List.mem_append_left _ (List.mem_append_left _ (List.mem_append_left _ (List.mem_append_left _ (List.mem_append_left _ ho))))))) rfl rfl rfl ⟨rfl, fun q h => by cases h; exact ⟨rfl, rfl⟩⟩ rfl rfl ?_
  refine K_full (o := 300) (ci := 3) rfl (by decide) (fun j hj h1 => ?_) ?_
  · rcases (show j = 0 ∨ j = 1 ∨ j = 2 ∨ j = 3 ∨ j = 4 ∨ j = 5 ∨ j = 6 ∨ j = 7 ∨ j = 8 ∨ j = 9 ∨ j = 10 from by have h9 : j < 11 := hj; omega) with rfl | rfl | rfl | rfl | rfl | rfl | rfl | rfl | rfl | rfl | rfl
    all_goals first | rfl | exact absurd h1 (by decide)
  exact K_vret C dX3_init_66 rfl (by simp only [List.append_assoc, List.cons_append, List.nil_append, List.append_nil]) (fun _ _ => by simp only [mT_up]) (fun _ _ => rfl) (fun _ _ => rfl)
theorem c_X1 {l : Launch} {L : Nat → Nat} {cA : Nat → ClassId} {D : va_G} {I : List Nat} {M : Nat → Nat → Bool} {v : fr_V} {u : fr_U} (ho : 100 ∈ I) (hf : fresh [102, 103, 104, 105, 108, 109, 110] M v u) : KCon l nX1_init 372 L cA D [102, 103, 104, 105, 108, 109, 110] I M v u [.ref 100, .ref 500] (mT M 100) (upA (up2 v 100 6 (-1)) 110 (fl (-1) ((up2 v 100 6 (-1)) 110) 12)) u := by
  refine KCon.of (by decide) (Nat.le_of_ble_eq_true rfl) (fun A0 p e s m as below meth c C hA hA2 => ?_)
  show KJ l _ _ L cA D A0 p e s m as below meth c _ 0 0 [102, 103, 104, 105, 108, 109, 110] I M v u 0 [(0, .ref 100), (1, .ref 500)] []
  refine K_aload_n C dX1_init_0 rfl 0 rfl ?_
  refine K_objInit C dX1_init_1 oi_X1_init oi_i oi_c ⟨Nat.le_of_ble_eq_true rfl, Nat.le_of_ble_eq_true rfl⟩ ?_
  refine K_aload_n C dX1_init_4 rfl 0 rfl ?_
  refine K_bipush (x := 60) C dX1_init_5 (by decide) ?_
  refine K_newa_int (k := 102) (n := 60) (ce' := 1) (sl' := 60) C dX1_init_7 aw_int rfl (fun j => (hf 102 (by decide)).1 j) (by decide) (by decide) (by decide) rfl rfl ⟨by decide, by decide⟩ ?_
  refine K_putr (ci := 1) (j := 1) (t := 102) C dX1_init_9 fl_X1_9 (List.mem_append_left _ ho) rfl rfl rfl ⟨rfl, fun q h => by cases h; exact ⟨rfl, rfl⟩⟩ rfl rfl ?_
  refine K_aload_n C dX1_init_12 rfl 0 rfl ?_
  refine K_bipush (x := 60) C dX1_init_13 (by decide) ?_
  refine K_newa_int (k := 103) (n := 60) (ce' := 2) (sl' := 120) C dX1_init_15 aw_int rfl (fun j => (hf 103 (by decide)).1 j) (by decide) (by decide) (by decide) rfl rfl ⟨by decide, by decide⟩ ?_
  refine K_putr (ci := 1) (j := 2) (t := 103) C dX1_init_17 fl_X1_15 (List.mem_append_left _ (List.mem_append_left _ ho)) rfl rfl rfl ⟨rfl, fun q h => by cases h; exact ⟨rfl, rfl⟩⟩ rfl rfl ?_
  refine K_aload_n C dX1_init_20 rfl 0 rfl ?_
  refine K_bipush (x := 60) C dX1_init_21 (by decide) ?_
  refine K_newa_int (k := 104) (n := 60) (ce' := 3) (sl' := 180) C dX1_init_23 aw_int rfl (fun j => (hf 104 (by decide)).1 j) (by decide) (by decide) (by decide) rfl rfl ⟨by decide, by decide⟩ ?_
  refine K_putr (ci := 1) (j := 3) (t := 104) C dX1_init_25 fl_X1_18 (List.mem_append_left _ (List.mem_append_left _ (List.mem_append_left _ ho))) rfl rfl rfl ⟨rfl, fun q h => by cases h; exact ⟨rfl, rfl⟩⟩ rfl rfl ?_
  refine K_aload_n C dX1_init_28 rfl 0 rfl ?_
  refine K_bipush (x := 60) C dX1_init_29 (by decide) ?_
  refine K_newa_int (k := 105) (n := 60) (ce' := 4) (sl' := 240) C dX1_init_31 aw_int rfl (fun j => (hf 105 (by decide)).1 j) (by decide) (by decide) (by decide) rfl rfl ⟨by decide, by decide⟩ ?_
  refine K_putr (ci := 1) (j := 4) (t := 105) C dX1_init_33 fl_X1_21 (List.mem_append_left _ (List.mem_append_left _ (List.mem_append_left _ (List.mem_append_left _ ho)))) rfl rfl rfl ⟨rfl, fun q h => by cases h; exact ⟨rfl, rfl⟩⟩ rfl rfl ?_
  refine K_aload_n C dX1_init_36 rfl 0 rfl ?_
  refine K_iconst (x := (-1)) C dX1_init_37 (by decide) ?_
  refine K_puti (ci := 1) (j := 6) C dX1_init_38 fl_X1_24 (List.mem_append_left _ (List.mem_append_left _ (List.mem_append_left _ (List.mem_append_left _ ho)))) rfl rfl (Or.inl (fun q h => by cases h; rfl)) rfl ?_
  refine K_aload_n C dX1_init_41 rfl 0 rfl ?_
  refine K_bipush (x := 60) C dX1_init_42 (by decide) ?_
  refine K_newa_boolean (k := 108) (n := 60) (ce' := 5) (sl' := 300) C dX1_init_44 aw_boolean rfl (fun j => (hf 108 (by decide)).1 j) (by decide) (by decide) (by decide) rfl rfl ⟨by decide, by decide⟩ ?_
  refine K_putr (ci := 1) (j := 7) (t := 108) C dX1_init_46 fl_X1_28 (List.mem_append_left _ (List.mem_append_left _ (List.mem_append_left _ (List.mem_append_left _ (List.mem_append_left _ ho))))) rfl rfl rfl ⟨rfl, fun q h => by cases h; exact ⟨rfl, rfl⟩⟩ rfl rfl ?_
  refine K_aload_n C dX1_init_49 rfl 0 rfl ?_
  refine K_bipush (x := 60) C dX1_init_50 (by decide) ?_
  refine K_newa_boolean (k := 109) (n := 60) (ce' := 6) (sl' := 360) C dX1_init_52 aw_boolean rfl (fun j => (hf 109 (by decide)).1 j) (by decide) (by decide) (by decide) rfl rfl ⟨by decide, by decide⟩ ?_
  refine K_putr (ci := 1) (j := 8) (t := 109) C dX1_init_54 fl_X1_32 (List.mem_append_left _ (List.mem_append_left _ (List.mem_append_left _ (List.mem_append_left _ (List.mem_append_left _ (List.mem_append_left _ ho)))))) rfl rfl rfl ⟨rfl, fun q h => by cases h; exact ⟨rfl, rfl⟩⟩ rfl rfl ?_
  refine K_aload_n C dX1_init_57 rfl 0 rfl ?_
  refine K_bipush (x := 12) C dX1_init_58 (by decide) ?_
  refine K_newa_int (k := 110) (n := 12) (ce' := 7) (sl' := 372) C dX1_init_60 aw_int rfl (fun j => (hf 110 (by decide)).1 j) (by decide) (by decide) (by decide) rfl rfl ⟨by decide, by decide⟩ ?_
  refine K_putr (ci := 1) (j := 9) (t := 110) C dX1_init_62 fl_X1_35 (List.mem_append_left _ (List.mem_append_left _ (List.mem_append_left _ (List.mem_append_left _ (List.mem_append_left _ (List.mem_append_left _ (List.mem_append_left _ ho))))))) rfl rfl rfl ⟨rfl, fun q h => by cases h; exact ⟨rfl, rfl⟩⟩ rfl rfl ?_
  refine K_aload_n C dX1_init_65 rfl 0 rfl ?_
  refine K_aload_n C dX1_init_66 rfl 1 rfl ?_
  refine K_putr (ci := 1) (j := 0) (t := 500) C dX1_init_67 fl_X1_38 (List.mem_append_left _ (List.mem_append_left _ (List.mem_append_left _ (List.mem_append_left _ (List.mem_append_left _ (List.mem_append_left _ (List.mem_append_left _ ho))))))) rfl rfl rfl ⟨rfl, fun q h => by cases h; exact ⟨rfl, rfl⟩⟩ rfl rfl ?_
  refine K_aload_n C dX1_init_70 rfl 0 rfl ?_
  refine K_getr (ci := 1) (j := 9) (t := 110) C dX1_init_71 fl_X1_35 (List.mem_append_left _ (List.mem_append_left _ (List.mem_append_left _ (List.mem_append_left _ (List.mem_append_left _ (List.mem_append_left _ (List.mem_append_left _ ho))))))) rfl rfl rfl rfl ?_
  refine K_iconst (x := (-1)) C dX1_init_74 (by decide) ?_
  refine K_callS (z := mJ7_fill_53178) (As := [.ref 110, .int (-1)]) (rest := []) (I0 := [110]) C dX1_init_75 ml_X1_42 ok_J7_fill_53178 iv_J7_fill_53178 ⟨Nat.le_of_ble_eq_true rfl, Nat.le_of_ble_eq_true rfl⟩ ⟨by decide, by decide⟩ (List.forall_mem_cons.mpr ⟨(List.mem_append_right _ (by decide)), fun _ h => absurd h List.not_mem_nil⟩) (List.forall_mem_cons.mpr ⟨fun j => (hf 110 (by decide)).2.2 j, fun _ h => absurd h List.not_mem_nil⟩) (fun _ => nd1 110) rfl rfl (Nat.le_of_ble_eq_true rfl) (k_fillW _ u 110 12 (List.mem_singleton.mpr rfl) rfl (by decide) (-1)) (fun r v9 u9 hq k9 _ hk9 => by obtain ⟨-, rfl, rfl⟩ := hq; exact ⟨upA_ne (fun e9 => hk9 (List.mem_singleton.mpr e9)), rfl⟩) (fun r v9 u9 hq => ?_)
  obtain ⟨rfl, e8, e9⟩ := hq
  rw [e8, e9]
  refine K_full (o := 100) (ci := 1) rfl (by decide) (fun j hj h1 => ?_) ?_
  · rcases (show j = 0 ∨ j = 1 ∨ j = 2 ∨ j = 3 ∨ j = 4 ∨ j = 5 ∨ j = 6 ∨ j = 7 ∨ j = 8 ∨ j = 9 from by have h9 : j < 10 := hj; omega) with rfl | rfl | rfl | rfl | rfl | rfl | rfl | rfl | rfl | rfl
    all_goals first | rfl | exact absurd h1 (by decide)
  exact K_vret C dX1_init_78 rfl (by simp only [List.append_assoc, List.cons_append, List.nil_append, List.append_nil]) (fun _ _ => by simp only [mT_up]) (fun _ _ => rfl) (fun _ _ => rfl)
