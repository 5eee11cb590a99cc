def x_ct (n : Nat → Nat) : Nat → Int32
  | 0 => nI (n 0)
  | 1 => nI (n 1)
  | 2 => nI (n 2)
  | 3 => nI (n 9)
  | 4 => nI (n 7)
  | 5 => nI (n 11)
  | 6 => nI (n 10)
  | 7 => nI (n 3)
  | 8 => x_old n
  | 9 => nI (n 4)
  | 10 => nI (n 5)
  | _ => -1

set_option maxHeartbeats 4000000 in
set_option maxRecDepth 100000 in
theorem c_X3_count (l : Launch) (dC : Nat → ClassId) (dI : Nat → Nat → Nat) (cs : ClassId × ClassId) (a n : Nat → Nat) (f : Nat → Nat → Int32) (k : Nat) (hB : x_bd n) (h1 : k < 11)  : Met l yX3_count wsX3_count ({ frames := 1, cells := 0, slots := 0, locals := 20 }) (rdPc (dC, dI) vwCl (wX cs a n f) (tyl cs) [.ref (a 0), .int (nI k)]) (QcRead (x_ct n k)) 0 0 (fun _ => False) := by
  refine rd_of (cc := cX3_count) (maxL := 2) (ret := (some .int)) (own := RX3) (by decide) rfl rfl (Nat.le_of_ble_eq_true rfl) ?_
  intro p e s m below meth c hx hb hr hml hts hown hlocks hP hK ls hl
  have hl : lv_has ls 2 [(0, .ref (a 0)), (1, .int (nI k))] := hl
  have hinX3 : ∀ w ∈ wsX30, w ∈ wsX3_count := by decide +kernel
  obtain ⟨B1, B2, B3, B4, B5, B6, B7, B8, B9, B10, B11, B12, B13, B14, B15⟩ := id hB
  refine lv_iload_n hx hb dX3_count_0 rfl (lv_at hl 1 rfl) ?_
  rcases (show k = 0 ∨ k = 1 ∨ k = 2 ∨ k = 3 ∨ k = 4 ∨ k = 5 ∨ k = 6 ∨ k = 7 ∨ k = 8 ∨ k = 9 ∨ k = 10 by omega) with rfl | rfl | rfl | rfl | rfl | rfl | rfl | rfl | rfl | rfl | rfl
  · refine lv_tableIn (tgt := 60) (off := 59) hx hb dX3_count_1 (by decide) (by decide) (by decide) (by decide) ?_
    refine lv_aload_n hx hb dX3_count_60 rfl (lv_at hl 0 rfl) ?_
    refine va_get (D := (dC, dI)) (ci := 4) (v := .ref (a 4)) (C := RX3) (T := TX3) (N := 9) hx hb hts hinX3 hown hK hP 0 rfl rfl 3 (by decide) (hts (.fieldLink RX3 38 "RenameRows" "nameNow" "[I") (by decide +kernel)) (fun _ h9 => h9) rfl dX3_count_61 ?_
    refine va_alen (D := (dC, dI)) hx hb hK hP 4 0 rfl rfl (v := nI (n 0)) rfl dX3_count_64 ?_
    refine tp_eq (show _ = (x_ct n 0) by rfl) ?_
    exact rd_iret hx hb hr hlocks dX3_count_65
  · refine lv_tableIn (tgt := 66) (off := 65) hx hb dX3_count_1 (by decide) (by decide) (by decide) (by decide) ?_
    refine lv_aload_n hx hb dX3_count_66 rfl (lv_at hl 0 rfl) ?_
    refine va_get (D := (dC, dI)) (ci := 4) (v := .ref (a 1)) (C := RX3) (T := TX3) (N := 9) hx hb hts hinX3 hown hK hP 0 rfl rfl 0 (by decide) (hts (.fieldLink RX3 18 "RenameRows" "names" "LRenameRows$Names;") (by decide +kernel)) (fun _ h9 => h9) rfl dX3_count_67 ?_
    refine W.callR (W.runV (As := []) (rest := []) ⟨hx, hb, hml, hown, hts⟩ (c_X1_total l dC dI cs a n f hB) (cwV 0 hts gX3_count_X1_total rfl rfl rfl (by decide +kernel) ⟨Nat.le_of_ble_eq_true rfl, Nat.le_of_ble_eq_true rfl⟩) (rd_preV (q := (RX1, TX1, 5)) hP hK 1 rfl rfl) rfl rfl hl.1 rfl (lv_room (Nat.le_of_ble_eq_true rfl)) dX3_count_70 ⟨Nat.zero_le _, Nat.zero_le _⟩) ?_
    refine W.eq (g2 := F0 m 73 ls (.int (nI (n 1)) :: [])) rfl ?_
    refine tp_eq (show _ = (x_ct n 1) by rfl) ?_
    exact rd_iret hx hb hr hlocks dX3_count_73
  · refine lv_tableIn (tgt := 74) (off := 73) hx hb dX3_count_1 (by decide) (by decide) (by decide) (by decide) ?_
    refine lv_aload_n hx hb dX3_count_74 rfl (lv_at hl 0 rfl) ?_
    refine va_get (D := (dC, dI)) (ci := 4) (v := .ref (a 2)) (C := RX3) (T := TX3) (N := 9) hx hb hts hinX3 hown hK hP 0 rfl rfl 1 (by decide) (hts (.fieldLink RX3 27 "RenameRows" "ring" "LRenameRows$Ring;") (by decide +kernel)) (fun _ h9 => h9) rfl dX3_count_75 ?_
    refine W.callR (W.runV (As := []) (rest := []) ⟨hx, hb, hml, hown, hts⟩ (c_X2_placeCount l dC dI cs a n f hB) (cwV 0 hts gX3_count_X2_placeCount rfl rfl rfl (by decide +kernel) ⟨Nat.le_of_ble_eq_true rfl, Nat.le_of_ble_eq_true rfl⟩) (rd_preV (q := (RX2, TX2, 10)) hP hK 2 rfl rfl) rfl rfl hl.1 rfl (lv_room (Nat.le_of_ble_eq_true rfl)) dX3_count_78 ⟨Nat.zero_le _, Nat.zero_le _⟩) ?_
    refine W.eq (g2 := F0 m 81 ls (.int (nI (n 2)) :: [])) rfl ?_
    refine tp_eq (show _ = (x_ct n 2) by rfl) ?_
    exact rd_iret hx hb hr hlocks dX3_count_81
  · refine lv_tableIn (tgt := 82) (off := 81) hx hb dX3_count_1 (by decide) (by decide) (by decide) (by decide) ?_
    refine lv_aload_n hx hb dX3_count_82 rfl (lv_at hl 0 rfl) ?_
    refine va_get (D := (dC, dI)) (ci := 4) (v := .ref (a 2)) (C := RX3) (T := TX3) (N := 9) hx hb hts hinX3 hown hK hP 0 rfl rfl 1 (by decide) (hts (.fieldLink RX3 27 "RenameRows" "ring" "LRenameRows$Ring;") (by decide +kernel)) (fun _ h9 => h9) rfl dX3_count_83 ?_
    refine W.callR (W.runV (As := []) (rest := []) ⟨hx, hb, hml, hown, hts⟩ (c_X2_rowCount l dC dI cs a n f hB) (cwV 0 hts gX3_count_X2_rowCount rfl rfl rfl (by decide +kernel) ⟨Nat.le_of_ble_eq_true rfl, Nat.le_of_ble_eq_true rfl⟩) (rd_preV (q := (RX2, TX2, 10)) hP hK 2 rfl rfl) rfl rfl hl.1 rfl (lv_room (Nat.le_of_ble_eq_true rfl)) dX3_count_86 ⟨Nat.zero_le _, Nat.zero_le _⟩) ?_
    refine W.eq (g2 := F0 m 89 ls (.int (nI (n 9)) :: [])) rfl ?_
    refine tp_eq (show _ = (x_ct n 3) by rfl) ?_
    exact rd_iret hx hb hr hlocks dX3_count_89
  · refine lv_tableIn (tgt := 90) (off := 89) hx hb dX3_count_1 (by decide) (by decide) (by decide) (by decide) ?_
    refine lv_aload_n hx hb dX3_count_90 rfl (lv_at hl 0 rfl) ?_
    refine va_get (D := (dC, dI)) (ci := 4) (v := .ref (a 1)) (C := RX3) (T := TX3) (N := 9) hx hb hts hinX3 hown hK hP 0 rfl rfl 0 (by decide) (hts (.fieldLink RX3 18 "RenameRows" "names" "LRenameRows$Names;") (by decide +kernel)) (fun _ h9 => h9) rfl dX3_count_91 ?_
    refine W.callR (W.runV (As := []) (rest := []) ⟨hx, hb, hml, hown, hts⟩ (c_X1_freeCount l dC dI cs a n f hB) (cwV 0 hts gX3_count_X1_freeCount rfl rfl rfl (by decide +kernel) ⟨Nat.le_of_ble_eq_true rfl, Nat.le_of_ble_eq_true rfl⟩) (rd_preV (q := (RX1, TX1, 5)) hP hK 1 rfl rfl) rfl rfl hl.1 rfl (lv_room (Nat.le_of_ble_eq_true rfl)) dX3_count_94 ⟨Nat.zero_le _, Nat.zero_le _⟩) ?_
    refine W.eq (g2 := F0 m 97 ls (.int (nI (n 7)) :: [])) rfl ?_
    refine tp_eq (show _ = (x_ct n 4) by rfl) ?_
    exact rd_iret hx hb hr hlocks dX3_count_97
  · refine lv_tableIn (tgt := 98) (off := 97) hx hb dX3_count_1 (by decide) (by decide) (by decide) (by decide) ?_
    refine lv_aload_n hx hb dX3_count_98 rfl (lv_at hl 0 rfl) ?_
    refine va_get (D := (dC, dI)) (ci := 4) (v := .ref (a 3)) (C := RX3) (T := TX3) (N := 9) hx hb hts hinX3 hown hK hP 0 rfl rfl 2 (by decide) (hts (.fieldLink RX3 34 "RenameRows" "marks" "LRenameRows$Marks;") (by decide +kernel)) (fun _ h9 => h9) rfl dX3_count_99 ?_
    refine W.callR (W.runV (As := []) (rest := []) ⟨hx, hb, hml, hown, hts⟩ (c_X0_takenCount l dC dI cs a n f hB) (cwV 0 hts gX3_count_X0_takenCount rfl rfl rfl (by decide +kernel) ⟨Nat.le_of_ble_eq_true rfl, Nat.le_of_ble_eq_true rfl⟩) (rd_preV (q := (RX0, TX0, 3)) hP hK 3 rfl rfl) rfl rfl hl.1 rfl (lv_room (Nat.le_of_ble_eq_true rfl)) dX3_count_102 ⟨Nat.zero_le _, Nat.zero_le _⟩) ?_
    refine W.eq (g2 := F0 m 105 ls (.int (nI (n 11)) :: [])) rfl ?_
    refine tp_eq (show _ = (x_ct n 5) by rfl) ?_
    exact rd_iret hx hb hr hlocks dX3_count_105
  · refine lv_tableIn (tgt := 106) (off := 105) hx hb dX3_count_1 (by decide) (by decide) (by decide) (by decide) ?_
    refine lv_aload_n hx hb dX3_count_106 rfl (lv_at hl 0 rfl) ?_
    refine va_get (D := (dC, dI)) (ci := 4) (v := .ref (a 2)) (C := RX3) (T := TX3) (N := 9) hx hb hts hinX3 hown hK hP 0 rfl rfl 1 (by decide) (hts (.fieldLink RX3 27 "RenameRows" "ring" "LRenameRows$Ring;") (by decide +kernel)) (fun _ h9 => h9) rfl dX3_count_107 ?_
    refine W.callR (W.runV (As := []) (rest := []) ⟨hx, hb, hml, hown, hts⟩ (c_X2_doneCount l dC dI cs a n f hB) (cwV 0 hts gX3_count_X2_doneCount rfl rfl rfl (by decide +kernel) ⟨Nat.le_of_ble_eq_true rfl, Nat.le_of_ble_eq_true rfl⟩) (rd_preV (q := (RX2, TX2, 10)) hP hK 2 rfl rfl) rfl rfl hl.1 rfl (lv_room (Nat.le_of_ble_eq_true rfl)) dX3_count_110 ⟨Nat.zero_le _, Nat.zero_le _⟩) ?_
    refine W.eq (g2 := F0 m 113 ls (.int (nI (n 10)) :: [])) rfl ?_
    refine tp_eq (show _ = (x_ct n 6) by rfl) ?_
    exact rd_iret hx hb hr hlocks dX3_count_113
  · refine lv_tableIn (tgt := 114) (off := 113) hx hb dX3_count_1 (by decide) (by decide) (by decide) (by decide) ?_
    refine lv_aload_n hx hb dX3_count_114 rfl (lv_at hl 0 rfl) ?_
    refine va_get (D := (dC, dI)) (ci := 4) (v := .int (nI (n 3))) (C := RX3) (T := TX3) (N := 9) hx hb hts hinX3 hown hK hP 0 rfl rfl 6 (by decide) (hts (.fieldLink RX3 182 "RenameRows" "takenBack" "I") (by decide +kernel)) (fun _ h9 => h9) rfl dX3_count_115 ?_
    refine tp_eq (show _ = (x_ct n 7) by rfl) ?_
    exact rd_iret hx hb hr hlocks dX3_count_118
  · refine lv_tableIn (tgt := 119) (off := 118) hx hb dX3_count_1 (by decide) (by decide) (by decide) (by decide) ?_
    refine lv_aload_n hx hb dX3_count_119 rfl (lv_at hl 0 rfl) ?_
    refine va_get (D := (dC, dI)) (ci := 4) (v := .ref (a 2)) (C := RX3) (T := TX3) (N := 9) hx hb hts hinX3 hown hK hP 0 rfl rfl 1 (by decide) (hts (.fieldLink RX3 27 "RenameRows" "ring" "LRenameRows$Ring;") (by decide +kernel)) (fun _ h9 => h9) rfl dX3_count_120 ?_
    refine W.callR (W.runV (As := []) (rest := []) ⟨hx, hb, hml, hown, hts⟩ (c_X2_oldestPlace l dC dI cs a n f hB) (cwV 0 hts gX3_count_X2_oldestPlace rfl rfl rfl (by decide +kernel) ⟨Nat.le_of_ble_eq_true rfl, Nat.le_of_ble_eq_true rfl⟩) (rd_preV (q := (RX2, TX2, 10)) hP hK 2 rfl rfl) rfl rfl hl.1 rfl (lv_room (Nat.le_of_ble_eq_true rfl)) dX3_count_123 ⟨Nat.zero_le _, Nat.zero_le _⟩) ?_
    refine W.eq (g2 := F0 m 126 ls (.int (x_old n) :: [])) rfl ?_
    refine tp_eq (show _ = (x_ct n 8) by rfl) ?_
    exact rd_iret hx hb hr hlocks dX3_count_126
  · refine lv_tableIn (tgt := 127) (off := 126) hx hb dX3_count_1 (by decide) (by decide) (by decide) (by decide) ?_
    refine lv_aload_n hx hb dX3_count_127 rfl (lv_at hl 0 rfl) ?_
    refine va_get (D := (dC, dI)) (ci := 4) (v := .int (nI (n 4))) (C := RX3) (T := TX3) (N := 9) hx hb hts hinX3 hown hK hP 0 rfl rfl 7 (by decide) (hts (.fieldLink RX3 63 "RenameRows" "wantsOfPlace" "I") (by decide +kernel)) (fun _ h9 => h9) rfl dX3_count_128 ?_
    refine tp_eq (show _ = (x_ct n 9) by rfl) ?_
    exact rd_iret hx hb hr hlocks dX3_count_131
  · refine lv_tableIn (tgt := 132) (off := 131) hx hb dX3_count_1 (by decide) (by decide) (by decide) (by decide) ?_
    refine lv_aload_n hx hb dX3_count_132 rfl (lv_at hl 0 rfl) ?_
    refine va_get (D := (dC, dI)) (ci := 4) (v := .int (nI (n 5))) (C := RX3) (T := TX3) (N := 9) hx hb hts hinX3 hown hK hP 0 rfl rfl 8 (by decide) (hts (.fieldLink RX3 71 "RenameRows" "wantsOfName" "I") (by decide +kernel)) (fun _ h9 => h9) rfl dX3_count_133 ?_
    refine tp_eq (show _ = (x_ct n 10) by rfl) ?_
    exact rd_iret hx hb hr hlocks dX3_count_136

set_option maxHeartbeats 4000000 in
set_option maxRecDepth 100000 in
theorem c_X3_count_x (l : Launch) (dC : Nat → ClassId) (dI : Nat → Nat → Nat) (cs : ClassId × ClassId) (a n : Nat → Nat) (f : Nat → Nat → Int32) (y : Int32) (hy : y.toInt < 0 ∨ 10 < y.toInt) (hB : x_bd n)  : Met l yX3_count wsX3_count ({ frames := 0, cells := 0, slots := 0, locals := 0 }) (rdPc (dC, dI) vwCl (wX cs a n f) (tyl cs) [.ref (a 0), .int y]) (QcRead (-1)) 0 0 (fun _ => False) := by
  refine rd_of (cc := cX3_count) (maxL := 2) (ret := (some .int)) (own := RX3) (by decide) rfl rfl (Nat.le_of_ble_eq_true rfl) ?_
  intro p e s m below meth c hx hb hr hml hts hown hlocks hP hK ls hl
  have hl : lv_has ls 2 [(0, .ref (a 0)), (1, .int y)] := hl
  obtain ⟨B1, B2, B3, B4, B5, B6, B7, B8, B9, B10, B11, B12, B13, B14, B15⟩ := id hB
  refine lv_iload_n hx hb dX3_count_0 rfl (lv_at hl 1 rfl) ?_
  refine lv_tableOut (tgt := 137) hx hb dX3_count_1 hy (by decide) ?_
  refine lv_iconst (v := (-1)) hx hb dX3_count_137 (by decide) ?_
  exact rd_iret hx hb hr hlocks dX3_count_138

set_option maxHeartbeats 4000000 in
set_option maxRecDepth 100000 in
theorem c_X3_dispatch_full (l : Launch) (dC : Nat → ClassId) (dI : Nat → Nat → Nat) (cs : ClassId × ClassId) (a n : Nat → Nat) (f : Nat → Nat → Int32) (sz : Nat) (da : Int32) (db : Int32) (dt : Int32) (v1 : (decide (da = -1) || inB da (n 0)) = true) (v2 : (decide (db = -1) || inB db (n 0)) = true) (v3 : (decide (dt = -1) || inB dt (n 0)) = true) (hB : x_bd n) (h1 : n 2 ≤ n 9)  : Met l yX3_dispatch wsX3_dispatch ({ frames := 2, cells := 0, slots := 0, locals := 42 }) (wrPc (dC, dI) vwCl (wX cs a n f) (tyl cs) sz [.ref (a 0), .int da, .int db, .int dt]) (wrQ (dC, dI) vwCl (wX cs a (un n 4 ((n 4) + 1)) f) (some (.int (-1))) (va_A (wX cs a n f) sz)) 0 0 (va_A (wX cs a n f) sz) := by
  refine wr_of (cc := cX3_dispatch) (maxL := 7) (ret := (some .int)) (own := RX3) (by decide) rfl rfl (Nat.le_of_ble_eq_true rfl) ?_
  intro p e s m below meth c A hsz hAe hx hb hr hml hts hown hlocks hP hK hD hA hS ls hl
  have hl : lv_has ls 7 [(0, .ref (a 0)), (1, .int da), (2, .int db), (3, .int dt)] := hl
  have hinX3 : ∀ w ∈ wsX30, w ∈ wsX3_dispatch := by decide +kernel
  obtain ⟨B1, B2, B3, B4, B5, B6, B7, B8, B9, B10, B11, B12, B13, B14, B15⟩ := id hB
  refine lv_aload_n hx hb dX3_dispatch_0 rfl (lv_at hl 0 rfl) ?_
  refine lv_iload_n hx hb dX3_dispatch_1 rfl (lv_at hl 1 rfl) ?_
  refine W.callR (W.runV (As := [.int da]) (rest := []) ⟨hx, hb, hml, hown, hts⟩ (c_X3_isRegisterOrNone l dC dI cs a n f da hB) (cwV 1 hts gX3_dispatch_X3_isRegisterOrNone rfl rfl rfl (by decide +kernel) ⟨Nat.le_of_ble_eq_true rfl, Nat.le_of_ble_eq_true rfl⟩) (rd_preV (q := (RX3, TX3, 9)) hP hK 0 rfl rfl) rfl rfl hl.1 rfl (lv_room (Nat.le_of_ble_eq_true rfl)) dX3_dispatch_2 ⟨Nat.zero_le _, Nat.zero_le _⟩) ?_
  refine W.eq (g2 := F0 m 5 ls (.int (b2i (decide (da = -1) || inB da (n 0))) :: [])) rfl ?_
  refine lv_if_eq (tgt := 24) hx hb dX3_dispatch_5 (by decide) (fun c_1 => absurd (b2i_f c_1) (by rw [v1]; decide)) (fun c_1 => ?_)
  have c_1 : (decide (da = -1) || inB da (n 0)) = true := b2i_t c_1
  refine lv_aload_n hx hb dX3_dispatch_8 rfl (lv_at hl 0 rfl) ?_
  refine lv_iload_n hx hb dX3_dispatch_9 rfl (lv_at hl 2 rfl) ?_
  refine W.callR (W.runV (As := [.int db]) (rest := []) ⟨hx, hb, hml, hown, hts⟩ (c_X3_isRegisterOrNone l dC dI cs a n f db hB) (cwV 1 hts gX3_dispatch_X3_isRegisterOrNone rfl rfl rfl (by decide +kernel) ⟨Nat.le_of_ble_eq_true rfl, Nat.le_of_ble_eq_true rfl⟩) (rd_preV (q := (RX3, TX3, 9)) hP hK 0 rfl rfl) rfl rfl hl.1 rfl (lv_room (Nat.le_of_ble_eq_true rfl)) dX3_dispatch_10 ⟨Nat.zero_le _, Nat.zero_le _⟩) ?_
  refine W.eq (g2 := F0 m 13 ls (.int (b2i (decide (db = -1) || inB db (n 0))) :: [])) rfl ?_
  refine lv_if_eq (tgt := 24) hx hb dX3_dispatch_13 (by decide) (fun c_2 => absurd (b2i_f c_2) (by rw [v2]; decide)) (fun c_2 => ?_)
  have c_2 : (decide (db = -1) || inB db (n 0)) = true := b2i_t c_2
  refine lv_aload_n hx hb dX3_dispatch_16 rfl (lv_at hl 0 rfl) ?_
  refine lv_iload_n hx hb dX3_dispatch_17 rfl (lv_at hl 3 rfl) ?_
  refine W.callR (W.runV (As := [.int dt]) (rest := []) ⟨hx, hb, hml, hown, hts⟩ (c_X3_isRegisterOrNone l dC dI cs a n f dt hB) (cwV 1 hts gX3_dispatch_X3_isRegisterOrNone rfl rfl rfl (by decide +kernel) ⟨Nat.le_of_ble_eq_true rfl, Nat.le_of_ble_eq_true rfl⟩) (rd_preV (q := (RX3, TX3, 9)) hP hK 0 rfl rfl) rfl rfl hl.1 rfl (lv_room (Nat.le_of_ble_eq_true rfl)) dX3_dispatch_18 ⟨Nat.zero_le _, Nat.zero_le _⟩) ?_
  refine W.eq (g2 := F0 m 21 ls (.int (b2i (decide (dt = -1) || inB dt (n 0))) :: [])) rfl ?_
  refine lv_if_ne (tgt := 34) hx hb dX3_dispatch_21 (by decide) (fun c_3 => ?_) (fun c_3 => absurd (b2i_f c_3) (by rw [v3]; decide))
  have c_3 : (decide (dt = -1) || inB dt (n 0)) = true := b2i_t c_3
  refine lv_aload_n hx hb dX3_dispatch_34 rfl (lv_at hl 0 rfl) ?_
  refine va_get (D := (dC, dI)) (ci := 4) (v := .ref (a 2)) (C := RX3) (T := TX3) (N := 9) hx hb hts hinX3 hown hK hP 0 rfl rfl 1 (by decide) (hts (.fieldLink RX3 27 "RenameRows" "ring" "LRenameRows$Ring;") (by decide +kernel)) (fun _ h9 => h9) rfl dX3_dispatch_35 ?_
  refine W.callR (W.runV (As := []) (rest := []) ⟨hx, hb, hml, hown, hts⟩ (c_X2_isFull l dC dI cs a n f hB) (cwV 0 hts gX3_dispatch_X2_isFull rfl rfl rfl (by decide +kernel) ⟨Nat.le_of_ble_eq_true rfl, Nat.le_of_ble_eq_true rfl⟩) (rd_preV (q := (RX2, TX2, 10)) hP hK 2 rfl rfl) rfl rfl hl.1 rfl (lv_room (Nat.le_of_ble_eq_true rfl)) dX3_dispatch_38 ⟨Nat.zero_le _, Nat.zero_le _⟩) ?_
  refine W.eq (g2 := F0 m 41 ls (.int (b2i (decide (n 2 ≤ n 9))) :: [])) rfl ?_
  refine lv_if_eq (tgt := 56) hx hb dX3_dispatch_41 (by decide) (fun c_4 => absurd (b2i_f c_4) (by simp; omega)) (fun c_4 => ?_)
  have c_4 : decide (n 2 ≤ n 9) = true := b2i_t c_4
  refine lv_aload_n hx hb dX3_dispatch_44 rfl (lv_at hl 0 rfl) ?_
  refine lv_dup hx hb dX3_dispatch_45 rfl ?_
  refine va_get (D := (dC, dI)) (ci := 4) (v := .int (nI (n 4))) (C := RX3) (T := TX3) (N := 9) hx hb hts hinX3 hown hK hP 0 rfl rfl 7 (by decide) (hts (.fieldLink RX3 63 "RenameRows" "wantsOfPlace" "I") (by decide +kernel)) (fun _ h9 => h9) rfl dX3_dispatch_46 ?_
  refine lv_iconst (v := nI 1) hx hb dX3_dispatch_49 (by decide) ?_
  refine lv_iadd hx hb dX3_dispatch_50 ?_
  refine tp_eq (nI_add (n 4) 1) ?_
  refine va_put (D := (dC, dI)) (ci := 4) (v := .int (nI ((n 4) + 1))) (ty := .int) (C := RX3) (T := TX3) (N := 9) hx hb hts hinX3 tyX3 tyX3_ok nmX3 hown hK hP hD hS 0 rfl rfl 7 (by decide) (hts (.fieldLink RX3 63 "RenameRows" "wantsOfPlace" "I") (by decide +kernel)) (fun _ h9 => h9) rfl (by decide +kernel) rfl rfl (Nat.le_of_ble_eq_true rfl) dX3_dispatch_51 (fun H locs hP hD hS => ?_)
  have hP : va_P (dC, dI) vwCl (wX cs a (un n 4 ((n 4) + 1)) f) H := hP
  have hD : va_D A (wX cs a (un n 4 ((n 4) + 1)) f) := hD
  refine lv_iconst (v := (-1)) hx hb dX3_dispatch_54 (by decide) ?_
  exact wr_iret hx hb hr hlocks hP hS dX3_dispatch_55

set_option maxHeartbeats 4000000 in
set_option maxRecDepth 100000 in
theorem c_X3_dispatch_want (l : Launch) (dC : Nat → ClassId) (dI : Nat → Nat → Nat) (cs : ClassId × ClassId) (a n : Nat → Nat) (f : Nat → Nat → Int32) (sz : Nat) (da : Int32) (db : Int32) (dt : Int32) (v1 : (decide (da = -1) || inB da (n 0)) = true) (v2 : (decide (db = -1) || inB db (n 0)) = true) (v3 : (decide (dt = -1) || inB dt (n 0)) = true) (v4 : ¬ dt = -1) (hB : x_bd n) (h1 : n 9 < n 2) (h2 : n 7 = 0)  : Met l yX3_dispatch wsX3_dispatch ({ frames := 2, cells := 0, slots := 0, locals := 42 }) (wrPc (dC, dI) vwCl (wX cs a n f) (tyl cs) sz [.ref (a 0), .int da, .int db, .int dt]) (wrQ (dC, dI) vwCl (wX cs a (un n 5 ((n 5) + 1)) f) (some (.int (-1))) (va_A (wX cs a n f) sz)) 0 0 (va_A (wX cs a n f) sz) := by
  refine wr_of (cc := cX3_dispatch) (maxL := 7) (ret := (some .int)) (own := RX3) (by decide) rfl rfl (Nat.le_of_ble_eq_true rfl) ?_
  intro p e s m below meth c A hsz hAe hx hb hr hml hts hown hlocks hP hK hD hA hS ls hl
  have hl : lv_has ls 7 [(0, .ref (a 0)), (1, .int da), (2, .int db), (3, .int dt)] := hl
  have hinX3 : ∀ w ∈ wsX30, w ∈ wsX3_dispatch := by decide +kernel
  obtain ⟨B1, B2, B3, B4, B5, B6, B7, B8, B9, B10, B11, B12, B13, B14, B15⟩ := id hB
  refine lv_aload_n hx hb dX3_dispatch_0 rfl (lv_at hl 0 rfl) ?_
  refine lv_iload_n hx hb dX3_dispatch_1 rfl (lv_at hl 1 rfl) ?_
  refine W.callR (W.runV (As := [.int da]) (rest := []) ⟨hx, hb, hml, hown, hts⟩ (c_X3_isRegisterOrNone l dC dI cs a n f da hB) (cwV 1 hts gX3_dispatch_X3_isRegisterOrNone rfl rfl rfl (by decide +kernel) ⟨Nat.le_of_ble_eq_true rfl, Nat.le_of_ble_eq_true rfl⟩) (rd_preV (q := (RX3, TX3, 9)) hP hK 0 rfl rfl) rfl rfl hl.1 rfl (lv_room (Nat.le_of_ble_eq_true rfl)) dX3_dispatch_2 ⟨Nat.zero_le _, Nat.zero_le _⟩) ?_
  refine W.eq (g2 := F0 m 5 ls (.int (b2i (decide (da = -1) || inB da (n 0))) :: [])) rfl ?_
  refine lv_if_eq (tgt := 24) hx hb dX3_dispatch_5 (by decide) (fun c_1 => absurd (b2i_f c_1) (by rw [v1]; decide)) (fun c_1 => ?_)
  have c_1 : (decide (da = -1) || inB da (n 0)) = true := b2i_t c_1
  refine lv_aload_n hx hb dX3_dispatch_8 rfl (lv_at hl 0 rfl) ?_
  refine lv_iload_n hx hb dX3_dispatch_9 rfl (lv_at hl 2 rfl) ?_
  refine W.callR (W.runV (As := [.int db]) (rest := []) ⟨hx, hb, hml, hown, hts⟩ (c_X3_isRegisterOrNone l dC dI cs a n f db hB) (cwV 1 hts gX3_dispatch_X3_isRegisterOrNone rfl rfl rfl (by decide +kernel) ⟨Nat.le_of_ble_eq_true rfl, Nat.le_of_ble_eq_true rfl⟩) (rd_preV (q := (RX3, TX3, 9)) hP hK 0 rfl rfl) rfl rfl hl.1 rfl (lv_room (Nat.le_of_ble_eq_true rfl)) dX3_dispatch_10 ⟨Nat.zero_le _, Nat.zero_le _⟩) ?_
  refine W.eq (g2 := F0 m 13 ls (.int (b2i (decide (db = -1) || inB db (n 0))) :: [])) rfl ?_
  refine lv_if_eq (tgt := 24) hx hb dX3_dispatch_13 (by decide) (fun c_2 => absurd (b2i_f c_2) (by rw [v2]; decide)) (fun c_2 => ?_)
  have c_2 : (decide (db = -1) || inB db (n 0)) = true := b2i_t c_2
  refine lv_aload_n hx hb dX3_dispatch_16 rfl (lv_at hl 0 rfl) ?_
  refine lv_iload_n hx hb dX3_dispatch_17 rfl (lv_at hl 3 rfl) ?_
  refine W.callR (W.runV (As := [.int dt]) (rest := []) ⟨hx, hb, hml, hown, hts⟩ (c_X3_isRegisterOrNone l dC dI cs a n f dt hB) (cwV 1 hts gX3_dispatch_X3_isRegisterOrNone rfl rfl rfl (by decide +kernel) ⟨Nat.le_of_ble_eq_true rfl, Nat.le_of_ble_eq_true rfl⟩) (rd_preV (q := (RX3, TX3, 9)) hP hK 0 rfl rfl) rfl rfl hl.1 rfl (lv_room (Nat.le_of_ble_eq_true rfl)) dX3_dispatch_18 ⟨Nat.zero_le _, Nat.zero_le _⟩) ?_
  refine W.eq (g2 := F0 m 21 ls (.int (b2i (decide (dt = -1) || inB dt (n 0))) :: [])) rfl ?_
  refine lv_if_ne (tgt := 34) hx hb dX3_dispatch_21 (by decide) (fun c_3 => ?_) (fun c_3 => absurd (b2i_f c_3) (by rw [v3]; decide))
  have c_3 : (decide (dt = -1) || inB dt (n 0)) = true := b2i_t c_3
  refine lv_aload_n hx hb dX3_dispatch_34 rfl (lv_at hl 0 rfl) ?_
  refine va_get (D := (dC, dI)) (ci := 4) (v := .ref (a 2)) (C := RX3) (T := TX3) (N := 9) hx hb hts hinX3 hown hK hP 0 rfl rfl 1 (by decide) (hts (.fieldLink RX3 27 "RenameRows" "ring" "LRenameRows$Ring;") (by decide +kernel)) (fun _ h9 => h9) rfl dX3_dispatch_35 ?_
  refine W.callR (W.runV (As := []) (rest := []) ⟨hx, hb, hml, hown, hts⟩ (c_X2_isFull l dC dI cs a n f hB) (cwV 0 hts gX3_dispatch_X2_isFull rfl rfl rfl (by decide +kernel) ⟨Nat.le_of_ble_eq_true rfl, Nat.le_of_ble_eq_true rfl⟩) (rd_preV (q := (RX2, TX2, 10)) hP hK 2 rfl rfl) rfl rfl hl.1 rfl (lv_room (Nat.le_of_ble_eq_true rfl)) dX3_dispatch_38 ⟨Nat.zero_le _, Nat.zero_le _⟩) ?_
  refine W.eq (g2 := F0 m 41 ls (.int (b2i (decide (n 2 ≤ n 9))) :: [])) rfl ?_
  refine lv_if_eq (tgt := 56) hx hb dX3_dispatch_41 (by decide) (fun c_4 => ?_) (fun c_4 => absurd (b2i_t c_4) (by simp; omega))
  have c_4 : decide (n 2 ≤ n 9) = false := b2i_f c_4
  refine lv_iload_n hx hb dX3_dispatch_56 rfl (lv_at hl 3 rfl) ?_
  refine lv_iconst (v := (-1)) hx hb dX3_dispatch_57 (by decide) ?_
  refine lv_icmp_eq (tgt := 83) hx hb dX3_dispatch_58 (by decide) (fun c_5 => absurd c_5 v4) (fun c_5 => ?_)
  refine lv_aload_n hx hb dX3_dispatch_61 rfl (lv_at hl 0 rfl) ?_
  refine va_get (D := (dC, dI)) (ci := 4) (v := .ref (a 1)) (C := RX3) (T := TX3) (N := 9) hx hb hts hinX3 hown hK hP 0 rfl rfl 0 (by decide) (hts (.fieldLink RX3 18 "RenameRows" "names" "LRenameRows$Names;") (by decide +kernel)) (fun _ h9 => h9) rfl dX3_dispatch_62 ?_
  refine W.callR (W.runV (As := []) (rest := []) ⟨hx, hb, hml, hown, hts⟩ (c_X1_freeCount l dC dI cs a n f hB) (cwV 0 hts gX3_dispatch_X1_freeCount rfl rfl rfl (by decide +kernel) ⟨Nat.le_of_ble_eq_true rfl, Nat.le_of_ble_eq_true rfl⟩) (rd_preV (q := (RX1, TX1, 5)) hP hK 1 rfl rfl) rfl rfl hl.1 rfl (lv_room (Nat.le_of_ble_eq_true rfl)) dX3_dispatch_65 ⟨Nat.zero_le _, Nat.zero_le _⟩) ?_
  refine W.eq (g2 := F0 m 68 ls (.int (nI (n 7)) :: [])) rfl ?_
  refine lv_if_ne (tgt := 83) hx hb dX3_dispatch_68 (by decide) (fun c_6 => absurd ((nI_z (by omega)).mpr (by omega)) c_6) (fun c_6 => ?_)
  have c_6 : (n 7) = 0 := (nI_z (by omega)).mp c_6
  refine lv_aload_n hx hb dX3_dispatch_71 rfl (lv_at hl 0 rfl) ?_
  refine lv_dup hx hb dX3_dispatch_72 rfl ?_
  refine va_get (D := (dC, dI)) (ci := 4) (v := .int (nI (n 5))) (C := RX3) (T := TX3) (N := 9) hx hb hts hinX3 hown hK hP 0 rfl rfl 8 (by decide) (hts (.fieldLink RX3 71 "RenameRows" "wantsOfName" "I") (by decide +kernel)) (fun _ h9 => h9) rfl dX3_dispatch_73 ?_
  refine lv_iconst (v := nI 1) hx hb dX3_dispatch_76 (by decide) ?_
  refine lv_iadd hx hb dX3_dispatch_77 ?_
  refine tp_eq (nI_add (n 5) 1) ?_
  refine va_put (D := (dC, dI)) (ci := 4) (v := .int (nI ((n 5) + 1))) (ty := .int) (C := RX3) (T := TX3) (N := 9) hx hb hts hinX3 tyX3 tyX3_ok nmX3 hown hK hP hD hS 0 rfl rfl 8 (by decide) (hts (.fieldLink RX3 71 "RenameRows" "wantsOfName" "I") (by decide +kernel)) (fun _ h9 => h9) rfl (by decide +kernel) rfl rfl (Nat.le_of_ble_eq_true rfl) dX3_dispatch_78 (fun H locs hP hD hS => ?_)
  have hP : va_P (dC, dI) vwCl (wX cs a (un n 5 ((n 5) + 1)) f) H := hP
  have hD : va_D A (wX cs a (un n 5 ((n 5) + 1)) f) := hD
  refine lv_iconst (v := (-1)) hx hb dX3_dispatch_81 (by decide) ?_
  exact wr_iret hx hb hr hlocks hP hS dX3_dispatch_82

set_option maxHeartbeats 4000000 in
set_option maxRecDepth 100000 in
theorem c_X3_dispatch_no (l : Launch) (dC : Nat → ClassId) (dI : Nat → Nat → Nat) (cs : ClassId × ClassId) (a n : Nat → Nat) (f : Nat → Nat → Int32) (sz : Nat) (da : Int32) (db : Int32) (dt : Int32) (v1 : (decide (da = -1) || inB da (n 0)) = true) (v2 : (decide (db = -1) || inB db (n 0)) = true) (v3 : (decide (dt = -1) || inB dt (n 0)) = true) (v4 : dt = -1) (hB : x_bd n) (h1 : n 9 < n 2)  : Met l yX3_dispatch wsX3_dispatch ({ frames := 3, cells := 0, slots := 0, locals := 75 }) (wrPc (dC, dI) vwCl (wX cs a n f) (tyl cs) sz [.ref (a 0), .int da, .int db, .int dt]) (wrQ (dC, dI) vwCl (wX cs a (un n 9 ((n 9) + 1)) (x_apF n f (x_cur n f da) (x_cur n f db) (-1) dt (nI 0))) (some (.int (nI (x_pos n (n 9))))) (va_A (wX cs a n f) sz)) 0 0 (va_A (wX cs a n f) sz) := by
  refine wr_of (cc := cX3_dispatch) (maxL := 7) (ret := (some .int)) (own := RX3) (by decide) rfl rfl (Nat.le_of_ble_eq_true rfl) ?_
  intro p e s m below meth c A hsz hAe hx hb hr hml hts hown hlocks hP hK hD hA hS ls hl
  have hl : lv_has ls 7 [(0, .ref (a 0)), (1, .int da), (2, .int db), (3, .int dt)] := hl
  have hinX3 : ∀ w ∈ wsX30, w ∈ wsX3_dispatch := by decide +kernel
  obtain ⟨B1, B2, B3, B4, B5, B6, B7, B8, B9, B10, B11, B12, B13, B14, B15⟩ := id hB
  refine lv_aload_n hx hb dX3_dispatch_0 rfl (lv_at hl 0 rfl) ?_
  refine lv_iload_n hx hb dX3_dispatch_1 rfl (lv_at hl 1 rfl) ?_
  refine W.callR (W.runV (As := [.int da]) (rest := []) ⟨hx, hb, hml, hown, hts⟩ (c_X3_isRegisterOrNone l dC dI cs a n f da hB) (cwV 1 hts gX3_dispatch_X3_isRegisterOrNone rfl rfl rfl (by decide +kernel) ⟨Nat.le_of_ble_eq_true rfl, Nat.le_of_ble_eq_true rfl⟩) (rd_preV (q := (RX3, TX3, 9)) hP hK 0 rfl rfl) rfl rfl hl.1 rfl (lv_room (Nat.le_of_ble_eq_true rfl)) dX3_dispatch_2 ⟨Nat.zero_le _, Nat.zero_le _⟩) ?_
  refine W.eq (g2 := F0 m 5 ls (.int (b2i (decide (da = -1) || inB da (n 0))) :: [])) rfl ?_
  refine lv_if_eq (tgt := 24) hx hb dX3_dispatch_5 (by decide) (fun c_1 => absurd (b2i_f c_1) (by rw [v1]; decide)) (fun c_1 => ?_)
  have c_1 : (decide (da = -1) || inB da (n 0)) = true := b2i_t c_1
  refine lv_aload_n hx hb dX3_dispatch_8 rfl (lv_at hl 0 rfl) ?_
  refine lv_iload_n hx hb dX3_dispatch_9 rfl (lv_at hl 2 rfl) ?_
  refine W.callR (W.runV (As := [.int db]) (rest := []) ⟨hx, hb, hml, hown, hts⟩ (c_X3_isRegisterOrNone l dC dI cs a n f db hB) (cwV 1 hts gX3_dispatch_X3_isRegisterOrNone rfl rfl rfl (by decide +kernel) ⟨Nat.le_of_ble_eq_true rfl, Nat.le_of_ble_eq_true rfl⟩) (rd_preV (q := (RX3, TX3, 9)) hP hK 0 rfl rfl) rfl rfl hl.1 rfl (lv_room (Nat.le_of_ble_eq_true rfl)) dX3_dispatch_10 ⟨Nat.zero_le _, Nat.zero_le _⟩) ?_
  refine W.eq (g2 := F0 m 13 ls (.int (b2i (decide (db = -1) || inB db (n 0))) :: [])) rfl ?_
  refine lv_if_eq (tgt := 24) hx hb dX3_dispatch_13 (by decide) (fun c_2 => absurd (b2i_f c_2) (by rw [v2]; decide)) (fun c_2 => ?_)
  have c_2 : (decide (db = -1) || inB db (n 0)) = true := b2i_t c_2
  refine lv_aload_n hx hb dX3_dispatch_16 rfl (lv_at hl 0 rfl) ?_
  refine lv_iload_n hx hb dX3_dispatch_17 rfl (lv_at hl 3 rfl) ?_
  refine W.callR (W.runV (As := [.int dt]) (rest := []) ⟨hx, hb, hml, hown, hts⟩ (c_X3_isRegisterOrNone l dC dI cs a n f dt hB) (cwV 1 hts gX3_dispatch_X3_isRegisterOrNone rfl rfl rfl (by decide +kernel) ⟨Nat.le_of_ble_eq_true rfl, Nat.le_of_ble_eq_true rfl⟩) (rd_preV (q := (RX3, TX3, 9)) hP hK 0 rfl rfl) rfl rfl hl.1 rfl (lv_room (Nat.le_of_ble_eq_true rfl)) dX3_dispatch_18 ⟨Nat.zero_le _, Nat.zero_le _⟩) ?_
  refine W.eq (g2 := F0 m 21 ls (.int (b2i (decide (dt = -1) || inB dt (n 0))) :: [])) rfl ?_
  refine lv_if_ne (tgt := 34) hx hb dX3_dispatch_21 (by decide) (fun c_3 => ?_) (fun c_3 => absurd (b2i_f c_3) (by rw [v3]; decide))
  have c_3 : (decide (dt = -1) || inB dt (n 0)) = true := b2i_t c_3
  refine lv_aload_n hx hb dX3_dispatch_34 rfl (lv_at hl 0 rfl) ?_
  refine va_get (D := (dC, dI)) (ci := 4) (v := .ref (a 2)) (C := RX3) (T := TX3) (N := 9) hx hb hts hinX3 hown hK hP 0 rfl rfl 1 (by decide) (hts (.fieldLink RX3 27 "RenameRows" "ring" "LRenameRows$Ring;") (by decide +kernel)) (fun _ h9 => h9) rfl dX3_dispatch_35 ?_
  refine W.callR (W.runV (As := []) (rest := []) ⟨hx, hb, hml, hown, hts⟩ (c_X2_isFull l dC dI cs a n f hB) (cwV 0 hts gX3_dispatch_X2_isFull rfl rfl rfl (by decide +kernel) ⟨Nat.le_of_ble_eq_true rfl, Nat.le_of_ble_eq_true rfl⟩) (rd_preV (q := (RX2, TX2, 10)) hP hK 2 rfl rfl) rfl rfl hl.1 rfl (lv_room (Nat.le_of_ble_eq_true rfl)) dX3_dispatch_38 ⟨Nat.zero_le _, Nat.zero_le _⟩) ?_
  refine W.eq (g2 := F0 m 41 ls (.int (b2i (decide (n 2 ≤ n 9))) :: [])) rfl ?_
  refine lv_if_eq (tgt := 56) hx hb dX3_dispatch_41 (by decide) (fun c_4 => ?_) (fun c_4 => absurd (b2i_t c_4) (by simp; omega))
  have c_4 : decide (n 2 ≤ n 9) = false := b2i_f c_4
  refine lv_iload_n hx hb dX3_dispatch_56 rfl (lv_at hl 3 rfl) ?_
  refine lv_iconst (v := (-1)) hx hb dX3_dispatch_57 (by decide) ?_
  refine lv_icmp_eq (tgt := 83) hx hb dX3_dispatch_58 (by decide) (fun c_5 => ?_) (fun c_5 => absurd v4 c_5)
  refine lv_aload_n hx hb dX3_dispatch_83 rfl (lv_at hl 0 rfl) ?_
  refine lv_iload_n hx hb dX3_dispatch_84 rfl (lv_at hl 1 rfl) ?_
  refine W.callR (W.runV (As := [.int da]) (rest := []) ⟨hx, hb, hml, hown, hts⟩ (c_X3_currentName l dC dI cs a n f da hB) (cwV 1 hts gX3_dispatch_X3_currentName rfl rfl rfl (by decide +kernel) ⟨Nat.le_of_ble_eq_true rfl, Nat.le_of_ble_eq_true rfl⟩) (rd_preV (q := (RX3, TX3, 9)) hP hK 0 rfl rfl) rfl rfl hl.1 rfl (lv_room (Nat.le_of_ble_eq_true rfl)) dX3_dispatch_85 ⟨Nat.zero_le _, Nat.zero_le _⟩) ?_
  refine W.eq (g2 := F0 m 88 ls (.int (x_cur n f da) :: [])) rfl ?_
  refine lv_istore (lv' := [(4, .int (x_cur n f da)), (0, .ref (a 0)), (1, .int da), (2, .int db), (3, .int dt)]) hx hb dX3_dispatch_88 hl (by decide) rfl (fun ls hl => ?_)
  refine lv_aload_n hx hb dX3_dispatch_90 rfl (lv_at hl 1 rfl) ?_
  refine lv_iload_n hx hb dX3_dispatch_91 rfl (lv_at hl 3 rfl) ?_
  refine W.callR (W.runV (As := [.int db]) (rest := []) ⟨hx, hb, hml, hown, hts⟩ (c_X3_currentName l dC dI cs a n f db hB) (cwV 1 hts gX3_dispatch_X3_currentName rfl rfl rfl (by decide +kernel) ⟨Nat.le_of_ble_eq_true rfl, Nat.le_of_ble_eq_true rfl⟩) (rd_preV (q := (RX3, TX3, 9)) hP hK 0 rfl rfl) rfl rfl hl.1 rfl (lv_room (Nat.le_of_ble_eq_true rfl)) dX3_dispatch_92 ⟨Nat.zero_le _, Nat.zero_le _⟩) ?_
  refine W.eq (g2 := F0 m 95 ls (.int (x_cur n f db) :: [])) rfl ?_
  refine lv_istore (lv' := [(5, .int (x_cur n f db)), (4, .int (x_cur n f da)), (0, .ref (a 0)), (1, .int da), (2, .int db), (3, .int dt)]) hx hb dX3_dispatch_95 hl (by decide) rfl (fun ls hl => ?_)
  refine lv_iload_n hx hb dX3_dispatch_97 rfl (lv_at hl 5 rfl) ?_
  refine lv_iconst (v := (-1)) hx hb dX3_dispatch_98 (by decide) ?_
  refine lv_icmp_ne (tgt := 106) hx hb dX3_dispatch_99 (by decide) (fun c_6 => absurd v4 c_6) (fun c_6 => ?_)
  refine lv_iconst (v := (-1)) hx hb dX3_dispatch_102 (by decide) ?_
  refine lv_goto (tgt := 113) hx hb dX3_dispatch_103 (by decide) ?_
  refine lv_istore (lv' := [(6, .int (-1)), (5, .int (x_cur n f db)), (4, .int (x_cur n f da)), (0, .ref (a 0)), (1, .int da), (2, .int db), (3, .int dt)]) hx hb dX3_dispatch_113 hl (by decide) rfl (fun ls hl => ?_)
  refine lv_aload_n hx hb dX3_dispatch_115 rfl (lv_at hl 3 rfl) ?_
  refine lv_iload hx hb dX3_dispatch_116 (lv_at hl 2 rfl) ?_
  refine lv_iload hx hb dX3_dispatch_118 (lv_at hl 1 rfl) ?_
  refine lv_iload hx hb dX3_dispatch_120 (lv_at hl 0 rfl) ?_
  refine lv_iload_n hx hb dX3_dispatch_122 rfl (lv_at hl 6 rfl) ?_
  refine lv_iconst (v := nI 0) hx hb dX3_dispatch_123 (by decide) ?_
  refine wr_calli (va_runV (As := [.int (x_cur n f da), .int (x_cur n f db), .int (-1), .int dt, .int (nI 0)]) (rest := []) ⟨hx, hb, hml, hown, hts⟩ (c_X3_appendRow l dC dI cs a n f s.heap.size (x_cur n f da) (x_cur n f db) (-1) dt (nI 0) hB (by first | omega | assumption)) (cwV 5 hts gX3_dispatch_X3_appendRow rfl rfl rfl (by decide +kernel) ⟨Nat.le_of_ble_eq_true rfl, Nat.le_of_ble_eq_true rfl⟩) (wr_preV (q := (RX3, TX3, 9)) hP hK hD 0 rfl rfl) rfl rfl hl.1 rfl (lv_room (Nat.le_of_ble_eq_true rfl)) dX3_dispatch_124 ⟨Nat.zero_le _, Nat.zero_le _⟩) hS hD hA rfl (fun H locs hP hD hS => ?_)
  have hP : va_P (dC, dI) vwCl (wX cs a (un n 9 ((n 9) + 1)) (x_apF n f (x_cur n f da) (x_cur n f db) (-1) dt (nI 0))) H := hP
  have hD : va_D A (wX cs a (un n 9 ((n 9) + 1)) (x_apF n f (x_cur n f da) (x_cur n f db) (-1) dt (nI 0))) := hD
  exact wr_iret hx hb hr hlocks hP hS dX3_dispatch_127

set_option maxHeartbeats 4000000 in
set_option maxRecDepth 100000 in
theorem c_X3_dispatch_give (l : Launch) (dC : Nat → ClassId) (dI : Nat → Nat → Nat) (cs : ClassId × ClassId) (a n : Nat → Nat) (f : Nat → Nat → Int32) (sz : Nat) (da : Int32) (db : Int32) (dt : Int32) (v1 : (decide (da = -1) || inB da (n 0)) = true) (v2 : (decide (db = -1) || inB db (n 0)) = true) (v3 : (decide (dt = -1) || inB dt (n 0)) = true) (v4 : ¬ dt = -1) (q : Nat) (hq : f 9 (n 6) = nI q) (hB : x_bd n) (h1 : n 9 < n 2) (h2 : 0 < n 7) (h3 : q < n 1)  : Met l yX3_dispatch wsX3_dispatch ({ frames := 3, cells := 0, slots := 0, locals := 75 }) (wrPc (dC, dI) vwCl (wX cs a n f) (tyl cs) sz [.ref (a 0), .int da, .int db, .int dt]) (wrQ (dC, dI) vwCl (wX cs a (un (un (un n 6 (x_slot n 1)) 7 ((n 7) - 1)) 9 ((n 9) + 1)) (x_apF (un (un n 6 (x_slot n 1)) 7 ((n 7) - 1)) (uf (uf f 7 (upd (f 7) q (nI 1))) 8 (upd (f 8) q (nI 0))) (x_cur n f da) (x_cur n f db) (nI q) dt (nI 0))) (some (.int (nI (x_pos n (n 9))))) (va_A (wX cs a n f) sz)) 0 0 (va_A (wX cs a n f) sz) := by
  refine wr_of (cc := cX3_dispatch) (maxL := 7) (ret := (some .int)) (own := RX3) (by decide) rfl rfl (Nat.le_of_ble_eq_true rfl) ?_
  intro p e s m below meth c A hsz hAe hx hb hr hml hts hown hlocks hP hK hD hA hS ls hl
  have hl : lv_has ls 7 [(0, .ref (a 0)), (1, .int da), (2, .int db), (3, .int dt)] := hl
  have hinX3 : ∀ w ∈ wsX30, w ∈ wsX3_dispatch := by decide +kernel
  obtain ⟨B1, B2, B3, B4, B5, B6, B7, B8, B9, B10, B11, B12, B13, B14, B15⟩ := id hB
  refine lv_aload_n hx hb dX3_dispatch_0 rfl (lv_at hl 0 rfl) ?_
  refine lv_iload_n hx hb dX3_dispatch_1 rfl (lv_at hl 1 rfl) ?_
  refine W.callR (W.runV (As := [.int da]) (rest := []) ⟨hx, hb, hml, hown, hts⟩ (c_X3_isRegisterOrNone l dC dI cs a n f da hB) (cwV 1 hts gX3_dispatch_X3_isRegisterOrNone rfl rfl rfl (by decide +kernel) ⟨Nat.le_of_ble_eq_true rfl, Nat.le_of_ble_eq_true rfl⟩) (rd_preV (q := (RX3, TX3, 9)) hP hK 0 rfl rfl) rfl rfl hl.1 rfl (lv_room (Nat.le_of_ble_eq_true rfl)) dX3_dispatch_2 ⟨Nat.zero_le _, Nat.zero_le _⟩) ?_
  refine W.eq (g2 := F0 m 5 ls (.int (b2i (decide (da = -1) || inB da (n 0))) :: [])) rfl ?_
  refine lv_if_eq (tgt := 24) hx hb dX3_dispatch_5 (by decide) (fun c_1 => absurd (b2i_f c_1) (by rw [v1]; decide)) (fun c_1 => ?_)
  have c_1 : (decide (da = -1) || inB da (n 0)) = true := b2i_t c_1
  refine lv_aload_n hx hb dX3_dispatch_8 rfl (lv_at hl 0 rfl) ?_
  refine lv_iload_n hx hb dX3_dispatch_9 rfl (lv_at hl 2 rfl) ?_
  refine W.callR (W.runV (As := [.int db]) (rest := []) ⟨hx, hb, hml, hown, hts⟩ (c_X3_isRegisterOrNone l dC dI cs a n f db hB) (cwV 1 hts gX3_dispatch_X3_isRegisterOrNone rfl rfl rfl (by decide +kernel) ⟨Nat.le_of_ble_eq_true rfl, Nat.le_of_ble_eq_true rfl⟩) (rd_preV (q := (RX3, TX3, 9)) hP hK 0 rfl rfl) rfl rfl hl.1 rfl (lv_room (Nat.le_of_ble_eq_true rfl)) dX3_dispatch_10 ⟨Nat.zero_le _, Nat.zero_le _⟩) ?_
  refine W.eq (g2 := F0 m 13 ls (.int (b2i (decide (db = -1) || inB db (n 0))) :: [])) rfl ?_
  refine lv_if_eq (tgt := 24) hx hb dX3_dispatch_13 (by decide) (fun c_2 => absurd (b2i_f c_2) (by rw [v2]; decide)) (fun c_2 => ?_)
  have c_2 : (decide (db = -1) || inB db (n 0)) = true := b2i_t c_2
  refine lv_aload_n hx hb dX3_dispatch_16 rfl (lv_at hl 0 rfl) ?_
  refine lv_iload_n hx hb dX3_dispatch_17 rfl (lv_at hl 3 rfl) ?_
  refine W.callR (W.runV (As := [.int dt]) (rest := []) ⟨hx, hb, hml, hown, hts⟩ (c_X3_isRegisterOrNone l dC dI cs a n f dt hB) (cwV 1 hts gX3_dispatch_X3_isRegisterOrNone rfl rfl rfl (by decide +kernel) ⟨Nat.le_of_ble_eq_true rfl, Nat.le_of_ble_eq_true rfl⟩) (rd_preV (q := (RX3, TX3, 9)) hP hK 0 rfl rfl) rfl rfl hl.1 rfl (lv_room (Nat.le_of_ble_eq_true rfl)) dX3_dispatch_18 ⟨Nat.zero_le _, Nat.zero_le _⟩) ?_
  refine W.eq (g2 := F0 m 21 ls (.int (b2i (decide (dt = -1) || inB dt (n 0))) :: [])) rfl ?_
  refine lv_if_ne (tgt := 34) hx hb dX3_dispatch_21 (by decide) (fun c_3 => ?_) (fun c_3 => absurd (b2i_f c_3) (by rw [v3]; decide))
  have c_3 : (decide (dt = -1) || inB dt (n 0)) = true := b2i_t c_3
  refine lv_aload_n hx hb dX3_dispatch_34 rfl (lv_at hl 0 rfl) ?_
  refine va_get (D := (dC, dI)) (ci := 4) (v := .ref (a 2)) (C := RX3) (T := TX3) (N := 9) hx hb hts hinX3 hown hK hP 0 rfl rfl 1 (by decide) (hts (.fieldLink RX3 27 "RenameRows" "ring" "LRenameRows$Ring;") (by decide +kernel)) (fun _ h9 => h9) rfl dX3_dispatch_35 ?_
  refine W.callR (W.runV (As := []) (rest := []) ⟨hx, hb, hml, hown, hts⟩ (c_X2_isFull l dC dI cs a n f hB) (cwV 0 hts gX3_dispatch_X2_isFull rfl rfl rfl (by decide +kernel) ⟨Nat.le_of_ble_eq_true rfl, Nat.le_of_ble_eq_true rfl⟩) (rd_preV (q := (RX2, TX2, 10)) hP hK 2 rfl rfl) rfl rfl hl.1 rfl (lv_room (Nat.le_of_ble_eq_true rfl)) dX3_dispatch_38 ⟨Nat.zero_le _, Nat.zero_le _⟩) ?_
  refine W.eq (g2 := F0 m 41 ls (.int (b2i (decide (n 2 ≤ n 9))) :: [])) rfl ?_
  refine lv_if_eq (tgt := 56) hx hb dX3_dispatch_41 (by decide) (fun c_4 => ?_) (fun c_4 => absurd (b2i_t c_4) (by simp; omega))
  have c_4 : decide (n 2 ≤ n 9) = false := b2i_f c_4
  refine lv_iload_n hx hb dX3_dispatch_56 rfl (lv_at hl 3 rfl) ?_
  refine lv_iconst (v := (-1)) hx hb dX3_dispatch_57 (by decide) ?_
  refine lv_icmp_eq (tgt := 83) hx hb dX3_dispatch_58 (by decide) (fun c_5 => absurd c_5 v4) (fun c_5 => ?_)
  refine lv_aload_n hx hb dX3_dispatch_61 rfl (lv_at hl 0 rfl) ?_
  refine va_get (D := (dC, dI)) (ci := 4) (v := .ref (a 1)) (C := RX3) (T := TX3) (N := 9) hx hb hts hinX3 hown hK hP 0 rfl rfl 0 (by decide) (hts (.fieldLink RX3 18 "RenameRows" "names" "LRenameRows$Names;") (by decide +kernel)) (fun _ h9 => h9) rfl dX3_dispatch_62 ?_
  refine W.callR (W.runV (As := []) (rest := []) ⟨hx, hb, hml, hown, hts⟩ (c_X1_freeCount l dC dI cs a n f hB) (cwV 0 hts gX3_dispatch_X1_freeCount rfl rfl rfl (by decide +kernel) ⟨Nat.le_of_ble_eq_true rfl, Nat.le_of_ble_eq_true rfl⟩) (rd_preV (q := (RX1, TX1, 5)) hP hK 1 rfl rfl) rfl rfl hl.1 rfl (lv_room (Nat.le_of_ble_eq_true rfl)) dX3_dispatch_65 ⟨Nat.zero_le _, Nat.zero_le _⟩) ?_
  refine W.eq (g2 := F0 m 68 ls (.int (nI (n 7)) :: [])) rfl ?_
  refine lv_if_ne (tgt := 83) hx hb dX3_dispatch_68 (by decide) (fun c_6 => ?_) (fun c_6 => absurd ((nI_z (by omega)).mp c_6) (by omega))
  have c_6 : ¬ (n 7) = 0 := fun q => c_6 ((nI_z (by omega)).mpr q)
  refine lv_aload_n hx hb dX3_dispatch_83 rfl (lv_at hl 0 rfl) ?_
  refine lv_iload_n hx hb dX3_dispatch_84 rfl (lv_at hl 1 rfl) ?_
  refine W.callR (W.runV (As := [.int da]) (rest := []) ⟨hx, hb, hml, hown, hts⟩ (c_X3_currentName l dC dI cs a n f da hB) (cwV 1 hts gX3_dispatch_X3_currentName rfl rfl rfl (by decide +kernel) ⟨Nat.le_of_ble_eq_true rfl, Nat.le_of_ble_eq_true rfl⟩) (rd_preV (q := (RX3, TX3, 9)) hP hK 0 rfl rfl) rfl rfl hl.1 rfl (lv_room (Nat.le_of_ble_eq_true rfl)) dX3_dispatch_85 ⟨Nat.zero_le _, Nat.zero_le _⟩) ?_
  refine W.eq (g2 := F0 m 88 ls (.int (x_cur n f da) :: [])) rfl ?_
  refine lv_istore (lv' := [(4, .int (x_cur n f da)), (0, .ref (a 0)), (1, .int da), (2, .int db), (3, .int dt)]) hx hb dX3_dispatch_88 hl (by decide) rfl (fun ls hl => ?_)
  refine lv_aload_n hx hb dX3_dispatch_90 rfl (lv_at hl 1 rfl) ?_
  refine lv_iload_n hx hb dX3_dispatch_91 rfl (lv_at hl 3 rfl) ?_
  refine W.callR (W.runV (As := [.int db]) (rest := []) ⟨hx, hb, hml, hown, hts⟩ (c_X3_currentName l dC dI cs a n f db hB) (cwV 1 hts gX3_dispatch_X3_currentName rfl rfl rfl (by decide +kernel) ⟨Nat.le_of_ble_eq_true rfl, Nat.le_of_ble_eq_true rfl⟩) (rd_preV (q := (RX3, TX3, 9)) hP hK 0 rfl rfl) rfl rfl hl.1 rfl (lv_room (Nat.le_of_ble_eq_true rfl)) dX3_dispatch_92 ⟨Nat.zero_le _, Nat.zero_le _⟩) ?_
  refine W.eq (g2 := F0 m 95 ls (.int (x_cur n f db) :: [])) rfl ?_
  refine lv_istore (lv' := [(5, .int (x_cur n f db)), (4, .int (x_cur n f da)), (0, .ref (a 0)), (1, .int da), (2, .int db), (3, .int dt)]) hx hb dX3_dispatch_95 hl (by decide) rfl (fun ls hl => ?_)
  refine lv_iload_n hx hb dX3_dispatch_97 rfl (lv_at hl 5 rfl) ?_
  refine lv_iconst (v := (-1)) hx hb dX3_dispatch_98 (by decide) ?_
  refine lv_icmp_ne (tgt := 106) hx hb dX3_dispatch_99 (by decide) (fun c_7 => ?_) (fun c_7 => absurd c_7 v4)
  refine lv_aload_n hx hb dX3_dispatch_106 rfl (lv_at hl 2 rfl) ?_
  refine va_get (D := (dC, dI)) (ci := 4) (v := .ref (a 1)) (C := RX3) (T := TX3) (N := 9) hx hb hts hinX3 hown hK hP 0 rfl rfl 0 (by decide) (hts (.fieldLink RX3 18 "RenameRows" "names" "LRenameRows$Names;") (by decide +kernel)) (fun _ h9 => h9) rfl dX3_dispatch_107 ?_
  refine wr_calli (va_runV (As := []) (rest := []) ⟨hx, hb, hml, hown, hts⟩ (c_X1_takeFirstFree l dC dI cs a n f s.heap.size q hq hB (by first | omega | assumption) (by first | omega | assumption)) (cwV 0 hts gX3_dispatch_X1_takeFirstFree rfl rfl rfl (by decide +kernel) ⟨Nat.le_of_ble_eq_true rfl, Nat.le_of_ble_eq_true rfl⟩) (wr_preV (q := (RX1, TX1, 5)) hP hK hD 1 rfl rfl) rfl rfl hl.1 rfl (lv_room (Nat.le_of_ble_eq_true rfl)) dX3_dispatch_110 ⟨Nat.zero_le _, Nat.zero_le _⟩) hS hD hA rfl (fun H locs hP hD hS => ?_)
  have hP : va_P (dC, dI) vwCl (wX cs a (un (un n 6 (x_slot n 1)) 7 ((n 7) - 1)) (uf (uf f 7 (upd (f 7) q (nI 1))) 8 (upd (f 8) q (nI 0)))) H := hP
  have hD : va_D A (wX cs a (un (un n 6 (x_slot n 1)) 7 ((n 7) - 1)) (uf (uf f 7 (upd (f 7) q (nI 1))) 8 (upd (f 8) q (nI 0)))) := hD
  have hs1 := x_slot_lt (n := n) (k := 1) (by omega) (by omega)
  have hB : x_bd (un (un n 6 (x_slot n 1)) 7 ((n 7) - 1)) := by (unfold x_bd un; simp; omega)
  refine lv_istore (lv' := [(6, .int (nI q)), (5, .int (x_cur n f db)), (4, .int (x_cur n f da)), (0, .ref (a 0)), (1, .int da), (2, .int db), (3, .int dt)]) hx hb dX3_dispatch_113 hl (by decide) rfl (fun ls hl => ?_)
  refine lv_aload_n hx hb dX3_dispatch_115 rfl (lv_at hl 3 rfl) ?_
  refine lv_iload hx hb dX3_dispatch_116 (lv_at hl 2 rfl) ?_
  refine lv_iload hx hb dX3_dispatch_118 (lv_at hl 1 rfl) ?_
  refine lv_iload hx hb dX3_dispatch_120 (lv_at hl 0 rfl) ?_
  refine lv_iload_n hx hb dX3_dispatch_122 rfl (lv_at hl 6 rfl) ?_
  refine lv_iconst (v := nI 0) hx hb dX3_dispatch_123 (by decide) ?_
  refine wr_calli (va_runV (As := [.int (x_cur n f da), .int (x_cur n f db), .int (nI q), .int dt, .int (nI 0)]) (rest := []) ⟨hx, hb, hml, hown, hts⟩ (c_X3_appendRow l dC dI cs a (un (un n 6 (x_slot n 1)) 7 ((n 7) - 1)) (uf (uf f 7 (upd (f 7) q (nI 1))) 8 (upd (f 8) q (nI 0))) H.size (x_cur n f da) (x_cur n f db) (nI q) dt (nI 0) hB (by first | omega | assumption)) (cwV 5 hts gX3_dispatch_X3_appendRow rfl rfl rfl (by decide +kernel) ⟨Nat.le_of_ble_eq_true rfl, Nat.le_of_ble_eq_true rfl⟩) (wr_preV (q := (RX3, TX3, 9)) hP hK hD 0 rfl rfl) rfl rfl hl.1 rfl (lv_room (Nat.le_of_ble_eq_true rfl)) dX3_dispatch_124 ⟨Nat.zero_le _, Nat.zero_le _⟩) hS hD hA rfl (fun H locs hP hD hS => ?_)
  have hP : va_P (dC, dI) vwCl (wX cs a (un (un (un n 6 (x_slot n 1)) 7 ((n 7) - 1)) 9 ((n 9) + 1)) (x_apF (un (un n 6 (x_slot n 1)) 7 ((n 7) - 1)) (uf (uf f 7 (upd (f 7) q (nI 1))) 8 (upd (f 8) q (nI 0))) (x_cur n f da) (x_cur n f db) (nI q) dt (nI 0))) H := hP
  have hD : va_D A (wX cs a (un (un (un n 6 (x_slot n 1)) 7 ((n 7) - 1)) 9 ((n 9) + 1)) (x_apF (un (un n 6 (x_slot n 1)) 7 ((n 7) - 1)) (uf (uf f 7 (upd (f 7) q (nI 1))) 8 (upd (f 8) q (nI 0))) (x_cur n f da) (x_cur n f db) (nI q) dt (nI 0))) := hD
  refine tp_eq (show _ = nI (x_pos n (n 9)) by rfl) ?_
  exact wr_iret hx hb hr hlocks hP hS dX3_dispatch_127

set_option maxHeartbeats 4000000 in
set_option maxRecDepth 100000 in
theorem c_X3_move_full (l : Launch) (dC : Nat → ClassId) (dI : Nat → Nat → Nat) (cs : ClassId × ClassId) (a n : Nat → Nat) (f : Nat → Nat → Int32) (sz : Nat) (ja : Nat) (jt : Nat) (hB : x_bd n) (h1 : ja < n 0) (h2 : jt < n 0) (h3 : n 2 ≤ n 9)  : Met l yX3_move wsX3_move ({ frames := 1, cells := 0, slots := 0, locals := 21 }) (wrPc (dC, dI) vwCl (wX cs a n f) (tyl cs) sz [.ref (a 0), .int (nI ja), .int (nI jt)]) (wrQ (dC, dI) vwCl (wX cs a (un n 4 ((n 4) + 1)) f) (some (.int (-1))) (va_A (wX cs a n f) sz)) 0 0 (va_A (wX cs a n f) sz) := by
  refine wr_of (cc := cX3_move) (maxL := 4) (ret := (some .int)) (own := RX3) (by decide) rfl rfl (Nat.le_of_ble_eq_true rfl) ?_
  intro p e s m below meth c A hsz hAe hx hb hr hml hts hown hlocks hP hK hD hA hS ls hl
  have hl : lv_has ls 4 [(0, .ref (a 0)), (1, .int (nI ja)), (2, .int (nI jt))] := hl
  have hinX3 : ∀ w ∈ wsX30, w ∈ wsX3_move := by decide +kernel
  obtain ⟨B1, B2, B3, B4, B5, B6, B7, B8, B9, B10, B11, B12, B13, B14, B15⟩ := id hB
  refine lv_aload_n hx hb dX3_move_0 rfl (lv_at hl 0 rfl) ?_
  refine lv_iload_n hx hb dX3_move_1 rfl (lv_at hl 1 rfl) ?_
  refine W.callR (W.runV (As := [.int (nI ja)]) (rest := []) ⟨hx, hb, hml, hown, hts⟩ (c_X3_isRegister l dC dI cs a n f (nI ja) hB) (cwV 1 hts gX3_move_X3_isRegister rfl rfl rfl (by decide +kernel) ⟨Nat.le_of_ble_eq_true rfl, Nat.le_of_ble_eq_true rfl⟩) (rd_preV (q := (RX3, TX3, 9)) hP hK 0 rfl rfl) rfl rfl hl.1 rfl (lv_room (Nat.le_of_ble_eq_true rfl)) dX3_move_2 ⟨Nat.zero_le _, Nat.zero_le _⟩) ?_
  refine W.eq (g2 := F0 m 5 ls (.int (b2i (inB (nI ja) (n 0))) :: [])) rfl ?_
  refine lv_if_eq (tgt := 16) hx hb dX3_move_5 (by decide) (fun c_1 => absurd (b2i_f c_1) (by rw [inB_nI (by omega) (by omega)]; simp; omega)) (fun c_1 => ?_)
  have c_1 : inB (nI ja) (n 0) = true := b2i_t c_1
  refine lv_aload_n hx hb dX3_move_8 rfl (lv_at hl 0 rfl) ?_
  refine lv_iload_n hx hb dX3_move_9 rfl (lv_at hl 2 rfl) ?_
  refine W.callR (W.runV (As := [.int (nI jt)]) (rest := []) ⟨hx, hb, hml, hown, hts⟩ (c_X3_isRegister l dC dI cs a n f (nI jt) hB) (cwV 1 hts gX3_move_X3_isRegister rfl rfl rfl (by decide +kernel) ⟨Nat.le_of_ble_eq_true rfl, Nat.le_of_ble_eq_true rfl⟩) (rd_preV (q := (RX3, TX3, 9)) hP hK 0 rfl rfl) rfl rfl hl.1 rfl (lv_room (Nat.le_of_ble_eq_true rfl)) dX3_move_10 ⟨Nat.zero_le _, Nat.zero_le _⟩) ?_
  refine W.eq (g2 := F0 m 13 ls (.int (b2i (inB (nI jt) (n 0))) :: [])) rfl ?_
  refine lv_if_ne (tgt := 26) hx hb dX3_move_13 (by decide) (fun c_2 => ?_) (fun c_2 => absurd (b2i_f c_2) (by rw [inB_nI (by omega) (by omega)]; simp; omega))
  have c_2 : inB (nI jt) (n 0) = true := b2i_t c_2
  refine lv_aload_n hx hb dX3_move_26 rfl (lv_at hl 0 rfl) ?_
  refine va_get (D := (dC, dI)) (ci := 4) (v := .ref (a 2)) (C := RX3) (T := TX3) (N := 9) hx hb hts hinX3 hown hK hP 0 rfl rfl 1 (by decide) (hts (.fieldLink RX3 27 "RenameRows" "ring" "LRenameRows$Ring;") (by decide +kernel)) (fun _ h9 => h9) rfl dX3_move_27 ?_
  refine W.callR (W.runV (As := []) (rest := []) ⟨hx, hb, hml, hown, hts⟩ (c_X2_isFull l dC dI cs a n f hB) (cwV 0 hts gX3_move_X2_isFull rfl rfl rfl (by decide +kernel) ⟨Nat.le_of_ble_eq_true rfl, Nat.le_of_ble_eq_true rfl⟩) (rd_preV (q := (RX2, TX2, 10)) hP hK 2 rfl rfl) rfl rfl hl.1 rfl (lv_room (Nat.le_of_ble_eq_true rfl)) dX3_move_30 ⟨Nat.zero_le _, Nat.zero_le _⟩) ?_
  refine W.eq (g2 := F0 m 33 ls (.int (b2i (decide (n 2 ≤ n 9))) :: [])) rfl ?_
  refine lv_if_eq (tgt := 48) hx hb dX3_move_33 (by decide) (fun c_3 => absurd (b2i_f c_3) (by simp; omega)) (fun c_3 => ?_)
  have c_3 : decide (n 2 ≤ n 9) = true := b2i_t c_3
  refine lv_aload_n hx hb dX3_move_36 rfl (lv_at hl 0 rfl) ?_
  refine lv_dup hx hb dX3_move_37 rfl ?_
  refine va_get (D := (dC, dI)) (ci := 4) (v := .int (nI (n 4))) (C := RX3) (T := TX3) (N := 9) hx hb hts hinX3 hown hK hP 0 rfl rfl 7 (by decide) (hts (.fieldLink RX3 63 "RenameRows" "wantsOfPlace" "I") (by decide +kernel)) (fun _ h9 => h9) rfl dX3_move_38 ?_
  refine lv_iconst (v := nI 1) hx hb dX3_move_41 (by decide) ?_
  refine lv_iadd hx hb dX3_move_42 ?_
  refine tp_eq (nI_add (n 4) 1) ?_
  refine va_put (D := (dC, dI)) (ci := 4) (v := .int (nI ((n 4) + 1))) (ty := .int) (C := RX3) (T := TX3) (N := 9) hx hb hts hinX3 tyX3 tyX3_ok nmX3 hown hK hP hD hS 0 rfl rfl 7 (by decide) (hts (.fieldLink RX3 63 "RenameRows" "wantsOfPlace" "I") (by decide +kernel)) (fun _ h9 => h9) rfl (by decide +kernel) rfl rfl (Nat.le_of_ble_eq_true rfl) dX3_move_43 (fun H locs hP hD hS => ?_)
  have hP : va_P (dC, dI) vwCl (wX cs a (un n 4 ((n 4) + 1)) f) H := hP
  have hD : va_D A (wX cs a (un n 4 ((n 4) + 1)) f) := hD
  refine lv_iconst (v := (-1)) hx hb dX3_move_46 (by decide) ?_
  exact wr_iret hx hb hr hlocks hP hS dX3_move_47

set_option maxHeartbeats 4000000 in
set_option maxRecDepth 100000 in
theorem c_X3_move_go (l : Launch) (dC : Nat → ClassId) (dI : Nat → Nat → Nat) (cs : ClassId × ClassId) (a n : Nat → Nat) (f : Nat → Nat → Int32) (sz : Nat) (ja : Nat) (jt : Nat) (q : Nat) (hq : f 4 ja = nI q) (hB : x_bd n) (h1 : ja < n 0) (h2 : jt < n 0) (h3 : n 9 < n 2) (h4 : q < n 1)  : Met l yX3_move wsX3_move ({ frames := 3, cells := 0, slots := 0, locals := 75 }) (wrPc (dC, dI) vwCl (wX cs a n f) (tyl cs) sz [.ref (a 0), .int (nI ja), .int (nI jt)]) (wrQ (dC, dI) vwCl (wX cs a (un n 9 ((n 9) + 1)) (x_apF n (uf f 7 (upd (f 7) q (((f 7 q) + nI 1)))) (nI q) (-1) (nI q) (nI jt) (nI 2))) (some (.int (nI (x_pos n (n 9))))) (va_A (wX cs a n f) sz)) 0 0 (va_A (wX cs a n f) sz) := by
  refine wr_of (cc := cX3_move) (maxL := 4) (ret := (some .int)) (own := RX3) (by decide) rfl rfl (Nat.le_of_ble_eq_true rfl) ?_
  intro p e s m below meth c A hsz hAe hx hb hr hml hts hown hlocks hP hK hD hA hS ls hl
  have hl : lv_has ls 4 [(0, .ref (a 0)), (1, .int (nI ja)), (2, .int (nI jt))] := hl
  have hinX3 : ∀ w ∈ wsX30, w ∈ wsX3_move := by decide +kernel
  obtain ⟨B1, B2, B3, B4, B5, B6, B7, B8, B9, B10, B11, B12, B13, B14, B15⟩ := id hB
  have hq1 : x_cur n f (nI ja) = nI q := by rw [x_cur, inB_nI (by omega) (by omega), cl32_nI (by omega)]; simp [hq]; omega
  refine lv_aload_n hx hb dX3_move_0 rfl (lv_at hl 0 rfl) ?_
  refine lv_iload_n hx hb dX3_move_1 rfl (lv_at hl 1 rfl) ?_
  refine W.callR (W.runV (As := [.int (nI ja)]) (rest := []) ⟨hx, hb, hml, hown, hts⟩ (c_X3_isRegister l dC dI cs a n f (nI ja) hB) (cwV 1 hts gX3_move_X3_isRegister rfl rfl rfl (by decide +kernel) ⟨Nat.le_of_ble_eq_true rfl, Nat.le_of_ble_eq_true rfl⟩) (rd_preV (q := (RX3, TX3, 9)) hP hK 0 rfl rfl) rfl rfl hl.1 rfl (lv_room (Nat.le_of_ble_eq_true rfl)) dX3_move_2 ⟨Nat.zero_le _, Nat.zero_le _⟩) ?_
  refine W.eq (g2 := F0 m 5 ls (.int (b2i (inB (nI ja) (n 0))) :: [])) rfl ?_
  refine lv_if_eq (tgt := 16) hx hb dX3_move_5 (by decide) (fun c_1 => absurd (b2i_f c_1) (by rw [inB_nI (by omega) (by omega)]; simp; omega)) (fun c_1 => ?_)
  have c_1 : inB (nI ja) (n 0) = true := b2i_t c_1
  refine lv_aload_n hx hb dX3_move_8 rfl (lv_at hl 0 rfl) ?_
  refine lv_iload_n hx hb dX3_move_9 rfl (lv_at hl 2 rfl) ?_
  refine W.callR (W.runV (As := [.int (nI jt)]) (rest := []) ⟨hx, hb, hml, hown, hts⟩ (c_X3_isRegister l dC dI cs a n f (nI jt) hB) (cwV 1 hts gX3_move_X3_isRegister rfl rfl rfl (by decide +kernel) ⟨Nat.le_of_ble_eq_true rfl, Nat.le_of_ble_eq_true rfl⟩) (rd_preV (q := (RX3, TX3, 9)) hP hK 0 rfl rfl) rfl rfl hl.1 rfl (lv_room (Nat.le_of_ble_eq_true rfl)) dX3_move_10 ⟨Nat.zero_le _, Nat.zero_le _⟩) ?_
  refine W.eq (g2 := F0 m 13 ls (.int (b2i (inB (nI jt) (n 0))) :: [])) rfl ?_
  refine lv_if_ne (tgt := 26) hx hb dX3_move_13 (by decide) (fun c_2 => ?_) (fun c_2 => absurd (b2i_f c_2) (by rw [inB_nI (by omega) (by omega)]; simp; omega))
  have c_2 : inB (nI jt) (n 0) = true := b2i_t c_2
  refine lv_aload_n hx hb dX3_move_26 rfl (lv_at hl 0 rfl) ?_
  refine va_get (D := (dC, dI)) (ci := 4) (v := .ref (a 2)) (C := RX3) (T := TX3) (N := 9) hx hb hts hinX3 hown hK hP 0 rfl rfl 1 (by decide) (hts (.fieldLink RX3 27 "RenameRows" "ring" "LRenameRows$Ring;") (by decide +kernel)) (fun _ h9 => h9) rfl dX3_move_27 ?_
  refine W.callR (W.runV (As := []) (rest := []) ⟨hx, hb, hml, hown, hts⟩ (c_X2_isFull l dC dI cs a n f hB) (cwV 0 hts gX3_move_X2_isFull rfl rfl rfl (by decide +kernel) ⟨Nat.le_of_ble_eq_true rfl, Nat.le_of_ble_eq_true rfl⟩) (rd_preV (q := (RX2, TX2, 10)) hP hK 2 rfl rfl) rfl rfl hl.1 rfl (lv_room (Nat.le_of_ble_eq_true rfl)) dX3_move_30 ⟨Nat.zero_le _, Nat.zero_le _⟩) ?_
  refine W.eq (g2 := F0 m 33 ls (.int (b2i (decide (n 2 ≤ n 9))) :: [])) rfl ?_
  refine lv_if_eq (tgt := 48) hx hb dX3_move_33 (by decide) (fun c_3 => ?_) (fun c_3 => absurd (b2i_t c_3) (by simp; omega))
  have c_3 : decide (n 2 ≤ n 9) = false := b2i_f c_3
  refine lv_aload_n hx hb dX3_move_48 rfl (lv_at hl 0 rfl) ?_
  refine lv_iload_n hx hb dX3_move_49 rfl (lv_at hl 1 rfl) ?_
  refine W.callR (W.runV (As := [.int (nI ja)]) (rest := []) ⟨hx, hb, hml, hown, hts⟩ (c_X3_currentName l dC dI cs a n f (nI ja) hB) (cwV 1 hts gX3_move_X3_currentName rfl rfl rfl (by decide +kernel) ⟨Nat.le_of_ble_eq_true rfl, Nat.le_of_ble_eq_true rfl⟩) (rd_preV (q := (RX3, TX3, 9)) hP hK 0 rfl rfl) rfl rfl hl.1 rfl (lv_room (Nat.le_of_ble_eq_true rfl)) dX3_move_50 ⟨Nat.zero_le _, Nat.zero_le _⟩) ?_
  refine W.eq (g2 := F0 m 53 ls (.int (x_cur n f (nI ja)) :: [])) rfl ?_
  refine tp_eq hq1 ?_
  refine lv_istore_n (lv' := [(3, .int (nI q)), (0, .ref (a 0)), (1, .int (nI ja)), (2, .int (nI jt))]) hx hb dX3_move_53 rfl hl (by decide) rfl (fun ls hl => ?_)
  refine lv_aload_n hx hb dX3_move_54 rfl (lv_at hl 1 rfl) ?_
  refine va_get (D := (dC, dI)) (ci := 4) (v := .ref (a 1)) (C := RX3) (T := TX3) (N := 9) hx hb hts hinX3 hown hK hP 0 rfl rfl 0 (by decide) (hts (.fieldLink RX3 18 "RenameRows" "names" "LRenameRows$Names;") (by decide +kernel)) (fun _ h9 => h9) rfl dX3_move_55 ?_
  refine lv_iload_n hx hb dX3_move_58 rfl (lv_at hl 0 rfl) ?_
  refine wr_callv (va_runV (As := [.int (nI q)]) (rest := []) ⟨hx, hb, hml, hown, hts⟩ (c_X1_addShare l dC dI cs a n f s.heap.size q hB (by first | omega | assumption)) (cwV 1 hts gX3_move_X1_addShare rfl rfl rfl (by decide +kernel) ⟨Nat.le_of_ble_eq_true rfl, Nat.le_of_ble_eq_true rfl⟩) (wr_preV (q := (RX1, TX1, 5)) hP hK hD 1 rfl rfl) rfl rfl hl.1 rfl (lv_room (Nat.le_of_ble_eq_true rfl)) dX3_move_59 ⟨Nat.zero_le _, Nat.zero_le _⟩) hS hD hA rfl (fun H locs hP hD hS => ?_)
  have hP : va_P (dC, dI) vwCl (wX cs a n (uf f 7 (upd (f 7) q (((f 7 q) + nI 1))))) H := hP
  have hD : va_D A (wX cs a n (uf f 7 (upd (f 7) q (((f 7 q) + nI 1))))) := hD
  refine lv_aload_n hx hb dX3_move_62 rfl (lv_at hl 1 rfl) ?_
  refine lv_iload_n hx hb dX3_move_63 rfl (lv_at hl 0 rfl) ?_
  refine lv_iconst (v := (-1)) hx hb dX3_move_64 (by decide) ?_
  refine lv_iload_n hx hb dX3_move_65 rfl (lv_at hl 0 rfl) ?_
  refine lv_iload_n hx hb dX3_move_66 rfl (lv_at hl 3 rfl) ?_
  refine lv_iconst (v := nI 2) hx hb dX3_move_67 (by decide) ?_
  refine wr_calli (va_runV (As := [.int (nI q), .int (-1), .int (nI q), .int (nI jt), .int (nI 2)]) (rest := []) ⟨hx, hb, hml, hown, hts⟩ (c_X3_appendRow l dC dI cs a n (uf f 7 (upd (f 7) q (((f 7 q) + nI 1)))) H.size (nI q) (-1) (nI q) (nI jt) (nI 2) hB (by first | omega | assumption)) (cwV 5 hts gX3_move_X3_appendRow rfl rfl rfl (by decide +kernel) ⟨Nat.le_of_ble_eq_true rfl, Nat.le_of_ble_eq_true rfl⟩) (wr_preV (q := (RX3, TX3, 9)) hP hK hD 0 rfl rfl) rfl rfl hl.1 rfl (lv_room (Nat.le_of_ble_eq_true rfl)) dX3_move_68 ⟨Nat.zero_le _, Nat.zero_le _⟩) hS hD hA rfl (fun H locs hP hD hS => ?_)
  have hP : va_P (dC, dI) vwCl (wX cs a (un n 9 ((n 9) + 1)) (x_apF n (uf f 7 (upd (f 7) q (((f 7 q) + nI 1)))) (nI q) (-1) (nI q) (nI jt) (nI 2))) H := hP
  have hD : va_D A (wX cs a (un n 9 ((n 9) + 1)) (x_apF n (uf f 7 (upd (f 7) q (((f 7 q) + nI 1)))) (nI q) (-1) (nI q) (nI jt) (nI 2))) := hD
  exact wr_iret hx hb hr hlocks hP hS dX3_move_71

set_option maxHeartbeats 4000000 in
set_option maxRecDepth 100000 in
theorem c_X3_port (l : Launch) (dC : Nat → ClassId) (dI : Nat → Nat → Nat) (cs : ClassId × ClassId) (a n : Nat → Nat) (f : Nat → Nat → Int32) (sz : Nat) (j : Nat) (k : Nat) (v1 : x_isIn n f (nI j) (nI 0) = true) (hB : x_bd n) (h1 : j < n 2) (h2 : k < 8)  : Met l yX3_port wsX3_port ({ frames := 3, cells := 0, slots := 0, locals := 64 }) (wrPc (dC, dI) vwCl (wX cs a n f) (tyl cs) sz [.ref (a 0), .int (nI j), .int (nI k)]) (wrQ (dC, dI) vwCl (wX cs a n (uf f 15 (upd (f 15) j (nI k)))) (some (.int (f 15 j))) (va_A (wX cs a n f) sz)) 0 0 (va_A (wX cs a n f) sz) := by
  refine wr_of (cc := cX3_port) (maxL := 4) (ret := (some .int)) (own := RX3) (by decide) rfl rfl (Nat.le_of_ble_eq_true rfl) ?_
  intro p e s m below meth c A hsz hAe hx hb hr hml hts hown hlocks hP hK hD hA hS ls hl
  have hl : lv_has ls 4 [(0, .ref (a 0)), (1, .int (nI j)), (2, .int (nI k))] := hl
  have hinX3 : ∀ w ∈ wsX30, w ∈ wsX3_port := by decide +kernel
  obtain ⟨B1, B2, B3, B4, B5, B6, B7, B8, B9, B10, B11, B12, B13, B14, B15⟩ := id hB
  refine lv_aload_n hx hb dX3_port_0 rfl (lv_at hl 0 rfl) ?_
  refine va_get (D := (dC, dI)) (ci := 4) (v := .ref (a 2)) (C := RX3) (T := TX3) (N := 9) hx hb hts hinX3 hown hK hP 0 rfl rfl 1 (by decide) (hts (.fieldLink RX3 27 "RenameRows" "ring" "LRenameRows$Ring;") (by decide +kernel)) (fun _ h9 => h9) rfl dX3_port_1 ?_
  refine lv_iload_n hx hb dX3_port_4 rfl (lv_at hl 1 rfl) ?_
  refine W.callR (W.runV (As := [.int (nI j)]) (rest := []) ⟨hx, hb, hml, hown, hts⟩ (c_X2_isPlace l dC dI cs a n f (nI j) hB) (cwV 1 hts gX3_port_X2_isPlace rfl rfl rfl (by decide +kernel) ⟨Nat.le_of_ble_eq_true rfl, Nat.le_of_ble_eq_true rfl⟩) (rd_preV (q := (RX2, TX2, 10)) hP hK 2 rfl rfl) rfl rfl hl.1 rfl (lv_room (Nat.le_of_ble_eq_true rfl)) dX3_port_5 ⟨Nat.zero_le _, Nat.zero_le _⟩) ?_
  refine W.eq (g2 := F0 m 8 ls (.int (b2i (inB (nI j) (n 2))) :: [])) rfl ?_
  refine lv_if_ne (tgt := 21) hx hb dX3_port_8 (by decide) (fun c_1 => ?_) (fun c_1 => absurd (b2i_f c_1) (by rw [inB_nI (by omega) (by omega)]; simp; omega))
  have c_1 : inB (nI j) (n 2) = true := b2i_t c_1
  refine lv_aload_n hx hb dX3_port_21 rfl (lv_at hl 0 rfl) ?_
  refine va_get (D := (dC, dI)) (ci := 4) (v := .ref (a 2)) (C := RX3) (T := TX3) (N := 9) hx hb hts hinX3 hown hK hP 0 rfl rfl 1 (by decide) (hts (.fieldLink RX3 27 "RenameRows" "ring" "LRenameRows$Ring;") (by decide +kernel)) (fun _ h9 => h9) rfl dX3_port_22 ?_
  refine lv_iload_n hx hb dX3_port_25 rfl (lv_at hl 1 rfl) ?_
  refine lv_iconst (v := nI 0) hx hb dX3_port_26 (by decide) ?_
  refine W.callR (W.runV (As := [.int (nI j), .int (nI 0)]) (rest := []) ⟨hx, hb, hml, hown, hts⟩ (c_X2_isInState l dC dI cs a n f (nI j) (nI 0) hB) (cwV 2 hts gX3_port_X2_isInState rfl rfl rfl (by decide +kernel) ⟨Nat.le_of_ble_eq_true rfl, Nat.le_of_ble_eq_true rfl⟩) (rd_preV (q := (RX2, TX2, 10)) hP hK 2 rfl rfl) rfl rfl hl.1 rfl (lv_room (Nat.le_of_ble_eq_true rfl)) dX3_port_27 ⟨Nat.zero_le _, Nat.zero_le _⟩) ?_
  refine W.eq (g2 := F0 m 30 ls (.int (b2i (x_isIn n f (nI j) (nI 0))) :: [])) rfl ?_
  refine lv_if_ne (tgt := 43) hx hb dX3_port_30 (by decide) (fun c_2 => ?_) (fun c_2 => absurd (b2i_f c_2) (by rw [v1]; decide))
  have c_2 : x_isIn n f (nI j) (nI 0) = true := b2i_t c_2
  refine lv_iload_n hx hb dX3_port_43 rfl (lv_at hl 2 rfl) ?_
  refine lv_if_lt (tgt := 53) hx hb dX3_port_44 (by decide) (fun c => absurd c (nI_pos (by omega))) (fun _ => ?_)
  refine lv_iload_n hx hb dX3_port_47 rfl (lv_at hl 2 rfl) ?_
  refine lv_bipush (v := nI 8) hx hb dX3_port_48 (by decide) ?_
  refine lv_icmp_lt (tgt := 63) hx hb dX3_port_50 (by decide) (fun c_4 => ?_) (fun c_4 => absurd ((nI_ltI (by omega) (by omega)).mpr (by omega)) c_4)
  have c_4 : k < 8 := (nI_ltI (by omega) (by omega)).mp c_4
  refine lv_aload_n hx hb dX3_port_63 rfl (lv_at hl 0 rfl) ?_
  refine va_get (D := (dC, dI)) (ci := 4) (v := .ref (a 2)) (C := RX3) (T := TX3) (N := 9) hx hb hts hinX3 hown hK hP 0 rfl rfl 1 (by decide) (hts (.fieldLink RX3 27 "RenameRows" "ring" "LRenameRows$Ring;") (by decide +kernel)) (fun _ h9 => h9) rfl dX3_port_64 ?_
  refine lv_iload_n hx hb dX3_port_67 rfl (lv_at hl 1 rfl) ?_
  refine W.callR (W.runV (As := [.int (nI j)]) (rest := []) ⟨hx, hb, hml, hown, hts⟩ (c_X2_portAt l dC dI cs a n f (nI j) hB) (cwV 1 hts gX3_port_X2_portAt rfl rfl rfl (by decide +kernel) ⟨Nat.le_of_ble_eq_true rfl, Nat.le_of_ble_eq_true rfl⟩) (rd_preV (q := (RX2, TX2, 10)) hP hK 2 rfl rfl) rfl rfl hl.1 rfl (lv_room (Nat.le_of_ble_eq_true rfl)) dX3_port_68 ⟨Nat.zero_le _, Nat.zero_le _⟩) ?_
  refine W.eq (g2 := F0 m 71 ls (.int (x_at 15 n f (nI j)) :: [])) rfl ?_
  refine tp_eq (x_at_nI (by omega) (by omega)) ?_
  refine W.eq (g2 := F0 m 71 ls (.int (f 15 j) :: [])) rfl ?_
  refine lv_istore_n (lv' := [(3, .int (f 15 j)), (0, .ref (a 0)), (1, .int (nI j)), (2, .int (nI k))]) hx hb dX3_port_71 rfl hl (by decide) rfl (fun ls hl => ?_)
  refine lv_aload_n hx hb dX3_port_72 rfl (lv_at hl 1 rfl) ?_
  refine va_get (D := (dC, dI)) (ci := 4) (v := .ref (a 2)) (C := RX3) (T := TX3) (N := 9) hx hb hts hinX3 hown hK hP 0 rfl rfl 1 (by decide) (hts (.fieldLink RX3 27 "RenameRows" "ring" "LRenameRows$Ring;") (by decide +kernel)) (fun _ h9 => h9) rfl dX3_port_73 ?_
  refine lv_iload_n hx hb dX3_port_76 rfl (lv_at hl 2 rfl) ?_
  refine lv_iload_n hx hb dX3_port_77 rfl (lv_at hl 3 rfl) ?_
  refine wr_callv (va_runV (As := [.int (nI j), .int (nI k)]) (rest := []) ⟨hx, hb, hml, hown, hts⟩ (c_X2_setPort l dC dI cs a n f s.heap.size j (nI k) hB (by first | omega | assumption)) (cwV 2 hts gX3_port_X2_setPort rfl rfl rfl (by decide +kernel) ⟨Nat.le_of_ble_eq_true rfl, Nat.le_of_ble_eq_true rfl⟩) (wr_preV (q := (RX2, TX2, 10)) hP hK hD 2 rfl rfl) rfl rfl hl.1 rfl (lv_room (Nat.le_of_ble_eq_true rfl)) dX3_port_78 ⟨Nat.zero_le _, Nat.zero_le _⟩) hS hD hA rfl (fun H locs hP hD hS => ?_)
  have hP : va_P (dC, dI) vwCl (wX cs a n (uf f 15 (upd (f 15) j (nI k)))) H := hP
  have hD : va_D A (wX cs a n (uf f 15 (upd (f 15) j (nI k)))) := hD
  refine lv_iload_n hx hb dX3_port_81 rfl (lv_at hl 0 rfl) ?_
  exact wr_iret hx hb hr hlocks hP hS dX3_port_82

set_option maxHeartbeats 4000000 in
set_option maxRecDepth 100000 in
theorem c_X3_end (l : Launch) (dC : Nat → ClassId) (dI : Nat → Nat → Nat) (cs : ClassId × ClassId) (a n : Nat → Nat) (f : Nat → Nat → Int32) (sz : Nat) (j : Nat) (v1 : x_isIn n f (nI j) (nI 1) = true) (hB : x_bd n) (h1 : j < n 2)  : Met l yX3_end wsX3_end ({ frames := 5, cells := 0, slots := 0, locals := 107 }) (wrPc (dC, dI) vwCl (wX cs a n f) (tyl cs) sz [.ref (a 0), .int (nI j)]) (wrQ (dC, dI) vwCl (wX cs a n (x_mrF n (uf f 16 (upd (f 16) j (nI 2))) (f 12 j))) (some (.int (nI (x_cnt n (x_mrF n (uf f 16 (upd (f 16) j (nI 2))) (f 12 j)) (n 9)) - nI (x_cnt n (uf f 16 (upd (f 16) j (nI 2))) (n 9))))) (va_A (wX cs a n f) sz)) 0 0 (va_A (wX cs a n f) sz) := by
  refine wr_of (cc := cX3_end) (maxL := 3) (ret := (some .int)) (own := RX3) (by decide) rfl rfl (Nat.le_of_ble_eq_true rfl) ?_
  intro p e s m below meth c A hsz hAe hx hb hr hml hts hown hlocks hP hK hD hA hS ls hl
  have hl : lv_has ls 3 [(0, .ref (a 0)), (1, .int (nI j))] := hl
  have hinX3 : ∀ w ∈ wsX30, w ∈ wsX3_end := by decide +kernel
  obtain ⟨B1, B2, B3, B4, B5, B6, B7, B8, B9, B10, B11, B12, B13, B14, B15⟩ := id hB
  refine lv_aload_n hx hb dX3_end_0 rfl (lv_at hl 0 rfl) ?_
  refine va_get (D := (dC, dI)) (ci := 4) (v := .ref (a 2)) (C := RX3) (T := TX3) (N := 9) hx hb hts hinX3 hown hK hP 0 rfl rfl 1 (by decide) (hts (.fieldLink RX3 27 "RenameRows" "ring" "LRenameRows$Ring;") (by decide +kernel)) (fun _ h9 => h9) rfl dX3_end_1 ?_
  refine lv_iload_n hx hb dX3_end_4 rfl (lv_at hl 1 rfl) ?_
  refine W.callR (W.runV (As := [.int (nI j)]) (rest := []) ⟨hx, hb, hml, hown, hts⟩ (c_X2_isPlace l dC dI cs a n f (nI j) hB) (cwV 1 hts gX3_end_X2_isPlace rfl rfl rfl (by decide +kernel) ⟨Nat.le_of_ble_eq_true rfl, Nat.le_of_ble_eq_true rfl⟩) (rd_preV (q := (RX2, TX2, 10)) hP hK 2 rfl rfl) rfl rfl hl.1 rfl (lv_room (Nat.le_of_ble_eq_true rfl)) dX3_end_5 ⟨Nat.zero_le _, Nat.zero_le _⟩) ?_
  refine W.eq (g2 := F0 m 8 ls (.int (b2i (inB (nI j) (n 2))) :: [])) rfl ?_
  refine lv_if_ne (tgt := 21) hx hb dX3_end_8 (by decide) (fun c_1 => ?_) (fun c_1 => absurd (b2i_f c_1) (by rw [inB_nI (by omega) (by omega)]; simp; omega))
  have c_1 : inB (nI j) (n 2) = true := b2i_t c_1
  refine lv_aload_n hx hb dX3_end_21 rfl (lv_at hl 0 rfl) ?_
  refine va_get (D := (dC, dI)) (ci := 4) (v := .ref (a 2)) (C := RX3) (T := TX3) (N := 9) hx hb hts hinX3 hown hK hP 0 rfl rfl 1 (by decide) (hts (.fieldLink RX3 27 "RenameRows" "ring" "LRenameRows$Ring;") (by decide +kernel)) (fun _ h9 => h9) rfl dX3_end_22 ?_
  refine lv_iload_n hx hb dX3_end_25 rfl (lv_at hl 1 rfl) ?_
  refine lv_iconst (v := nI 1) hx hb dX3_end_26 (by decide) ?_
  refine W.callR (W.runV (As := [.int (nI j), .int (nI 1)]) (rest := []) ⟨hx, hb, hml, hown, hts⟩ (c_X2_isInState l dC dI cs a n f (nI j) (nI 1) hB) (cwV 2 hts gX3_end_X2_isInState rfl rfl rfl (by decide +kernel) ⟨Nat.le_of_ble_eq_true rfl, Nat.le_of_ble_eq_true rfl⟩) (rd_preV (q := (RX2, TX2, 10)) hP hK 2 rfl rfl) rfl rfl hl.1 rfl (lv_room (Nat.le_of_ble_eq_true rfl)) dX3_end_27 ⟨Nat.zero_le _, Nat.zero_le _⟩) ?_
  refine W.eq (g2 := F0 m 30 ls (.int (b2i (x_isIn n f (nI j) (nI 1))) :: [])) rfl ?_
  refine lv_if_ne (tgt := 43) hx hb dX3_end_30 (by decide) (fun c_2 => ?_) (fun c_2 => absurd (b2i_f c_2) (by rw [v1]; decide))
  have c_2 : x_isIn n f (nI j) (nI 1) = true := b2i_t c_2
  refine lv_aload_n hx hb dX3_end_43 rfl (lv_at hl 0 rfl) ?_
  refine va_get (D := (dC, dI)) (ci := 4) (v := .ref (a 2)) (C := RX3) (T := TX3) (N := 9) hx hb hts hinX3 hown hK hP 0 rfl rfl 1 (by decide) (hts (.fieldLink RX3 27 "RenameRows" "ring" "LRenameRows$Ring;") (by decide +kernel)) (fun _ h9 => h9) rfl dX3_end_44 ?_
  refine lv_iload_n hx hb dX3_end_47 rfl (lv_at hl 1 rfl) ?_
  refine lv_iconst (v := nI 2) hx hb dX3_end_48 (by decide) ?_
  refine wr_callv (va_runV (As := [.int (nI j), .int (nI 2)]) (rest := []) ⟨hx, hb, hml, hown, hts⟩ (c_X2_setState l dC dI cs a n f s.heap.size j (nI 2) hB (by first | omega | assumption)) (cwV 2 hts gX3_end_X2_setState rfl rfl rfl (by decide +kernel) ⟨Nat.le_of_ble_eq_true rfl, Nat.le_of_ble_eq_true rfl⟩) (wr_preV (q := (RX2, TX2, 10)) hP hK hD 2 rfl rfl) rfl rfl hl.1 rfl (lv_room (Nat.le_of_ble_eq_true rfl)) dX3_end_49 ⟨Nat.zero_le _, Nat.zero_le _⟩) hS hD hA rfl (fun H locs hP hD hS => ?_)
  have hP : va_P (dC, dI) vwCl (wX cs a n (uf f 16 (upd (f 16) j (nI 2)))) H := hP
  have hD : va_D A (wX cs a n (uf f 16 (upd (f 16) j (nI 2)))) := hD
  refine lv_aload_n hx hb dX3_end_52 rfl (lv_at hl 0 rfl) ?_
  refine W.callR (W.runV (As := []) (rest := []) ⟨hx, hb, hml, hown, hts⟩ (c_X3_countAble l dC dI cs a n (uf f 16 (upd (f 16) j (nI 2))) hB) (cwV 0 hts gX3_end_X3_countAble rfl rfl rfl (by decide +kernel) ⟨Nat.le_of_ble_eq_true rfl, Nat.le_of_ble_eq_true rfl⟩) (rd_preV (q := (RX3, TX3, 9)) hP hK 0 rfl rfl) rfl rfl hl.1 rfl (lv_room (Nat.le_of_ble_eq_true rfl)) dX3_end_53 ⟨Nat.zero_le _, Nat.zero_le _⟩) ?_
  refine W.eq (g2 := F0 m 56 ls (.int (nI (x_cnt n (uf f 16 (upd (f 16) j (nI 2))) (n 9))) :: [])) rfl ?_
  refine lv_istore_n (lv' := [(2, .int (nI (x_cnt n (uf f 16 (upd (f 16) j (nI 2))) (n 9)))), (0, .ref (a 0)), (1, .int (nI j))]) hx hb dX3_end_56 rfl hl (by decide) rfl (fun ls hl => ?_)
  refine lv_aload_n hx hb dX3_end_57 rfl (lv_at hl 1 rfl) ?_
  refine va_get (D := (dC, dI)) (ci := 4) (v := .ref (a 1)) (C := RX3) (T := TX3) (N := 9) hx hb hts hinX3 hown hK hP 0 rfl rfl 0 (by decide) (hts (.fieldLink RX3 18 "RenameRows" "names" "LRenameRows$Names;") (by decide +kernel)) (fun _ h9 => h9) rfl dX3_end_58 ?_
  refine lv_aload_n hx hb dX3_end_61 rfl (lv_at hl 1 rfl) ?_
  refine va_get (D := (dC, dI)) (ci := 4) (v := .ref (a 2)) (C := RX3) (T := TX3) (N := 9) hx hb hts hinX3 hown hK hP 0 rfl rfl 1 (by decide) (hts (.fieldLink RX3 27 "RenameRows" "ring" "LRenameRows$Ring;") (by decide +kernel)) (fun _ h9 => h9) rfl dX3_end_62 ?_
  refine lv_iload_n hx hb dX3_end_65 rfl (lv_at hl 2 rfl) ?_
  refine W.callR (W.runV (As := [.int (nI j)]) (rest := [.ref (a 1)]) ⟨hx, hb, hml, hown, hts⟩ (c_X2_givenAt l dC dI cs a n (uf f 16 (upd (f 16) j (nI 2))) (nI j) hB) (cwV 1 hts gX3_end_X2_givenAt rfl rfl rfl (by decide +kernel) ⟨Nat.le_of_ble_eq_true rfl, Nat.le_of_ble_eq_true rfl⟩) (rd_preV (q := (RX2, TX2, 10)) hP hK 2 rfl rfl) rfl rfl hl.1 rfl (lv_room (Nat.le_of_ble_eq_true rfl)) dX3_end_66 ⟨Nat.zero_le _, Nat.zero_le _⟩) ?_
  refine W.eq (g2 := F0 m 69 ls (.int (x_at 12 n (uf f 16 (upd (f 16) j (nI 2))) (nI j)) :: [.ref (a 1)])) rfl ?_
  refine tp_eq (x_at_nI (by omega) (by omega)) ?_
  refine W.eq (g2 := F0 m 69 ls (.int (f 12 j) :: [.ref (a 1)])) rfl ?_
  refine wr_callv (va_runV (As := [.int (f 12 j)]) (rest := []) ⟨hx, hb, hml, hown, hts⟩ (c_X1_makeReady l dC dI cs a n (uf f 16 (upd (f 16) j (nI 2))) H.size (f 12 j) hB) (cwV 1 hts gX3_end_X1_makeReady rfl rfl rfl (by decide +kernel) ⟨Nat.le_of_ble_eq_true rfl, Nat.le_of_ble_eq_true rfl⟩) (wr_preV (q := (RX1, TX1, 5)) hP hK hD 1 rfl rfl) rfl rfl hl.1 rfl (lv_room (Nat.le_of_ble_eq_true rfl)) dX3_end_69 ⟨Nat.zero_le _, Nat.zero_le _⟩) hS hD hA rfl (fun H locs hP hD hS => ?_)
  have hP : va_P (dC, dI) vwCl (wX cs a n (x_mrF n (uf f 16 (upd (f 16) j (nI 2))) (f 12 j))) H := hP
  have hD : va_D A (wX cs a n (x_mrF n (uf f 16 (upd (f 16) j (nI 2))) (f 12 j))) := hD
  refine lv_aload_n hx hb dX3_end_72 rfl (lv_at hl 1 rfl) ?_
  refine W.callR (W.runV (As := []) (rest := []) ⟨hx, hb, hml, hown, hts⟩ (c_X3_countAble l dC dI cs a n (x_mrF n (uf f 16 (upd (f 16) j (nI 2))) (f 12 j)) hB) (cwV 0 hts gX3_end_X3_countAble rfl rfl rfl (by decide +kernel) ⟨Nat.le_of_ble_eq_true rfl, Nat.le_of_ble_eq_true rfl⟩) (rd_preV (q := (RX3, TX3, 9)) hP hK 0 rfl rfl) rfl rfl hl.1 rfl (lv_room (Nat.le_of_ble_eq_true rfl)) dX3_end_73 ⟨Nat.zero_le _, Nat.zero_le _⟩) ?_
  refine W.eq (g2 := F0 m 76 ls (.int (nI (x_cnt n (x_mrF n (uf f 16 (upd (f 16) j (nI 2))) (f 12 j)) (n 9))) :: [])) rfl ?_
  refine lv_iload_n hx hb dX3_end_76 rfl (lv_at hl 0 rfl) ?_
  refine lv_isub hx hb dX3_end_77 ?_
  exact wr_iret hx hb hr hlocks hP hS dX3_end_78

set_option maxHeartbeats 4000000 in
set_option maxRecDepth 100000 in
theorem c_X3_branch (l : Launch) (dC : Nat → ClassId) (dI : Nat → Nat → Nat) (cs : ClassId × ClassId) (a n : Nat → Nat) (f : Nat → Nat → Int32) (sz : Nat) (hB : x_bd n)  : Met l yX3_branch wsX3_branch ({ frames := 3, cells := 0, slots := 0, locals := 65 }) (wrPc (dC, dI) vwCl (wX cs a n f) (tyl cs) sz [.ref (a 0)]) (wrQ (dC, dI) vwCl (wX cs a (x_loN n f) (x_loF n f (n 10 + n 9))) (some (.int (x_lo n f))) (va_A (wX cs a n f) sz)) 0 0 (va_A (wX cs a n f) sz) := by
  refine wr_of (cc := cX3_branch) (maxL := 1) (ret := (some .int)) (own := RX3) (by decide) rfl rfl (Nat.le_of_ble_eq_true rfl) ?_
  intro p e s m below meth c A hsz hAe hx hb hr hml hts hown hlocks hP hK hD hA hS ls hl
  have hl : lv_has ls 1 [(0, .ref (a 0))] := hl
  have hinX3 : ∀ w ∈ wsX30, w ∈ wsX3_branch := by decide +kernel
  obtain ⟨B1, B2, B3, B4, B5, B6, B7, B8, B9, B10, B11, B12, B13, B14, B15⟩ := id hB
  refine lv_aload_n hx hb dX3_branch_0 rfl (lv_at hl 0 rfl) ?_
  refine va_get (D := (dC, dI)) (ci := 4) (v := .ref (a 3)) (C := RX3) (T := TX3) (N := 9) hx hb hts hinX3 hown hK hP 0 rfl rfl 2 (by decide) (hts (.fieldLink RX3 34 "RenameRows" "marks" "LRenameRows$Marks;") (by decide +kernel)) (fun _ h9 => h9) rfl dX3_branch_1 ?_
  refine lv_aload_n hx hb dX3_branch_4 rfl (lv_at hl 0 rfl) ?_
  refine va_get (D := (dC, dI)) (ci := 4) (v := .ref (a 2)) (C := RX3) (T := TX3) (N := 9) hx hb hts hinX3 hown hK hP 0 rfl rfl 1 (by decide) (hts (.fieldLink RX3 27 "RenameRows" "ring" "LRenameRows$Ring;") (by decide +kernel)) (fun _ h9 => h9) rfl dX3_branch_5 ?_
  refine W.callR (W.runV (As := []) (rest := [.ref (a 3)]) ⟨hx, hb, hml, hown, hts⟩ (c_X2_rowsSinceBeginning l dC dI cs a n f hB) (cwV 0 hts gX3_branch_X2_rowsSinceBeginning rfl rfl rfl (by decide +kernel) ⟨Nat.le_of_ble_eq_true rfl, Nat.le_of_ble_eq_true rfl⟩) (rd_preV (q := (RX2, TX2, 10)) hP hK 2 rfl rfl) rfl rfl hl.1 rfl (lv_room (Nat.le_of_ble_eq_true rfl)) dX3_branch_8 ⟨Nat.zero_le _, Nat.zero_le _⟩) ?_
  refine W.eq (g2 := F0 m 11 ls (.int (nI ((n 10) + (n 9))) :: [.ref (a 3)])) rfl ?_
  refine wr_calli (va_runV (As := [.int (nI ((n 10) + (n 9)))]) (rest := []) ⟨hx, hb, hml, hown, hts⟩ (c_X0_takeLowest l dC dI cs a n f s.heap.size ((n 10) + (n 9)) hB) (cwV 1 hts gX3_branch_X0_takeLowest rfl rfl rfl (by decide +kernel) ⟨Nat.le_of_ble_eq_true rfl, Nat.le_of_ble_eq_true rfl⟩) (wr_preV (q := (RX0, TX0, 3)) hP hK hD 3 rfl rfl) rfl rfl hl.1 rfl (lv_room (Nat.le_of_ble_eq_true rfl)) dX3_branch_11 ⟨Nat.zero_le _, Nat.zero_le _⟩) hS hD hA rfl (fun H locs hP hD hS => ?_)
  have hP : va_P (dC, dI) vwCl (wX cs a (x_loN n f) (x_loF n f ((n 10) + (n 9)))) H := hP
  have hD : va_D A (wX cs a (x_loN n f) (x_loF n f ((n 10) + (n 9)))) := hD
  have hP : va_P (dC, dI) vwCl (wX cs a (x_loN n f) (x_loF n f (n 10 + n 9))) H := by
    have e9 : (wX cs a (x_loN n f) (x_loF n f ((n 10) + (n 9)))) = (wX cs a (x_loN n f) (x_loF n f (n 10 + n 9))) := by rfl
    rw [← e9]; exact hP
  exact wr_iret hx hb hr hlocks hP hS dX3_branch_14

set_option maxHeartbeats 4000000 in
set_option maxRecDepth 100000 in
theorem c_X3_right (l : Launch) (dC : Nat → ClassId) (dI : Nat → Nat → Nat) (cs : ClassId × ClassId) (a n : Nat → Nat) (f : Nat → Nat → Int32) (sz : Nat) (j : Nat) (t : Nat) (ht : x_turn n f (nI j) = nI t) (hB : x_bd n) (h1 : j < 8) (h2 : t < n 11)  : Met l yX3_right wsX3_right ({ frames := 2, cells := 0, slots := 0, locals := 45 }) (wrPc (dC, dI) vwCl (wX cs a n f) (tyl cs) sz [.ref (a 0), .int (nI j)]) (wrQ (dC, dI) vwCl (wX cs a (un n 11 (n 11 - 1)) (uf f 18 (x_sl (f 18) t (n 11 - 1)))) (some (.int (nI (n 11 - 1)))) (va_A (wX cs a n f) sz)) 0 0 (va_A (wX cs a n f) sz) := by
  refine wr_of (cc := cX3_right) (maxL := 2) (ret := (some .int)) (own := RX3) (by decide) rfl rfl (Nat.le_of_ble_eq_true rfl) ?_
  intro p e s m below meth c A hsz hAe hx hb hr hml hts hown hlocks hP hK hD hA hS ls hl
  have hl : lv_has ls 2 [(0, .ref (a 0)), (1, .int (nI j))] := hl
  have hinX3 : ∀ w ∈ wsX30, w ∈ wsX3_right := by decide +kernel
  obtain ⟨B1, B2, B3, B4, B5, B6, B7, B8, B9, B10, B11, B12, B13, B14, B15⟩ := id hB
  refine lv_aload_n hx hb dX3_right_0 rfl (lv_at hl 0 rfl) ?_
  refine va_get (D := (dC, dI)) (ci := 4) (v := .ref (a 3)) (C := RX3) (T := TX3) (N := 9) hx hb hts hinX3 hown hK hP 0 rfl rfl 2 (by decide) (hts (.fieldLink RX3 34 "RenameRows" "marks" "LRenameRows$Marks;") (by decide +kernel)) (fun _ h9 => h9) rfl dX3_right_1 ?_
  refine lv_iload_n hx hb dX3_right_4 rfl (lv_at hl 1 rfl) ?_
  refine W.callR (W.runV (As := [.int (nI j)]) (rest := []) ⟨hx, hb, hml, hown, hts⟩ (c_X0_isMark l dC dI cs a n f (nI j) hB) (cwV 1 hts gX3_right_X0_isMark rfl rfl rfl (by decide +kernel) ⟨Nat.le_of_ble_eq_true rfl, Nat.le_of_ble_eq_true rfl⟩) (rd_preV (q := (RX0, TX0, 3)) hP hK 3 rfl rfl) rfl rfl hl.1 rfl (lv_room (Nat.le_of_ble_eq_true rfl)) dX3_right_5 ⟨Nat.zero_le _, Nat.zero_le _⟩) ?_
  refine W.eq (g2 := F0 m 8 ls (.int (b2i (inB (nI j) 8)) :: [])) rfl ?_
  refine lv_if_ne (tgt := 21) hx hb dX3_right_8 (by decide) (fun c_1 => ?_) (fun c_1 => absurd (b2i_f c_1) (by rw [inB_nI (by omega) (by omega)]; simp; omega))
  have c_1 : inB (nI j) 8 = true := b2i_t c_1
  refine lv_aload_n hx hb dX3_right_21 rfl (lv_at hl 0 rfl) ?_
  refine va_get (D := (dC, dI)) (ci := 4) (v := .ref (a 3)) (C := RX3) (T := TX3) (N := 9) hx hb hts hinX3 hown hK hP 0 rfl rfl 2 (by decide) (hts (.fieldLink RX3 34 "RenameRows" "marks" "LRenameRows$Marks;") (by decide +kernel)) (fun _ h9 => h9) rfl dX3_right_22 ?_
  refine lv_iload_n hx hb dX3_right_25 rfl (lv_at hl 1 rfl) ?_
  refine W.callR (W.runV (As := [.int (nI j)]) (rest := []) ⟨hx, hb, hml, hown, hts⟩ (c_X0_isFree l dC dI cs a n f (nI j) hB) (cwV 1 hts gX3_right_X0_isFree rfl rfl rfl (by decide +kernel) ⟨Nat.le_of_ble_eq_true rfl, Nat.le_of_ble_eq_true rfl⟩) (rd_preV (q := (RX0, TX0, 3)) hP hK 3 rfl rfl) rfl rfl hl.1 rfl (lv_room (Nat.le_of_ble_eq_true rfl)) dX3_right_26 ⟨Nat.zero_le _, Nat.zero_le _⟩) ?_
  refine W.eq (g2 := F0 m 29 ls (.int (b2i (decide (x_turn n f (nI j) = -1))) :: [])) rfl ?_
  refine lv_if_eq (tgt := 42) hx hb dX3_right_29 (by decide) (fun c_2 => ?_) (fun c_2 => absurd (b2i_t c_2) (by rw [ht]; simp; exact nI_m1 (by omega)))
  have c_2 : decide (x_turn n f (nI j) = -1) = false := b2i_f c_2
  refine lv_aload_n hx hb dX3_right_42 rfl (lv_at hl 0 rfl) ?_
  refine va_get (D := (dC, dI)) (ci := 4) (v := .ref (a 3)) (C := RX3) (T := TX3) (N := 9) hx hb hts hinX3 hown hK hP 0 rfl rfl 2 (by decide) (hts (.fieldLink RX3 34 "RenameRows" "marks" "LRenameRows$Marks;") (by decide +kernel)) (fun _ h9 => h9) rfl dX3_right_43 ?_
  refine lv_iload_n hx hb dX3_right_46 rfl (lv_at hl 1 rfl) ?_
  refine wr_callv (va_runV (As := [.int (nI j)]) (rest := []) ⟨hx, hb, hml, hown, hts⟩ (c_X0_release l dC dI cs a n f s.heap.size (nI j) t ht hB (by first | omega | assumption)) (cwV 1 hts gX3_right_X0_release rfl rfl rfl (by decide +kernel) ⟨Nat.le_of_ble_eq_true rfl, Nat.le_of_ble_eq_true rfl⟩) (wr_preV (q := (RX0, TX0, 3)) hP hK hD 3 rfl rfl) rfl rfl hl.1 rfl (lv_room (Nat.le_of_ble_eq_true rfl)) dX3_right_47 ⟨Nat.zero_le _, Nat.zero_le _⟩) hS hD hA rfl (fun H locs hP hD hS => ?_)
  have hP : va_P (dC, dI) vwCl (wX cs a (un n 11 ((n 11) - 1)) (uf f 18 (x_sl (f 18) t (n 11 - 1)))) H := hP
  have hD : va_D A (wX cs a (un n 11 ((n 11) - 1)) (uf f 18 (x_sl (f 18) t (n 11 - 1)))) := hD
  have hB : x_bd (un n 11 ((n 11) - 1)) := by (unfold x_bd un; simp; omega)
  refine lv_aload_n hx hb dX3_right_50 rfl (lv_at hl 0 rfl) ?_
  refine va_get (D := (dC, dI)) (ci := 4) (v := .ref (a 3)) (C := RX3) (T := TX3) (N := 9) hx hb hts hinX3 hown hK hP 0 rfl rfl 2 (by decide) (hts (.fieldLink RX3 34 "RenameRows" "marks" "LRenameRows$Marks;") (by decide +kernel)) (fun _ h9 => h9) rfl dX3_right_51 ?_
  refine W.callR (W.runV (As := []) (rest := []) ⟨hx, hb, hml, hown, hts⟩ (c_X0_takenCount l dC dI cs a (un n 11 ((n 11) - 1)) (uf f 18 (x_sl (f 18) t (n 11 - 1))) hB) (cwV 0 hts gX3_right_X0_takenCount rfl rfl rfl (by decide +kernel) ⟨Nat.le_of_ble_eq_true rfl, Nat.le_of_ble_eq_true rfl⟩) (rd_preV (q := (RX0, TX0, 3)) hP hK 3 rfl rfl) rfl rfl hl.1 rfl (lv_room (Nat.le_of_ble_eq_true rfl)) dX3_right_54 ⟨Nat.zero_le _, Nat.zero_le _⟩) ?_
  refine W.eq (g2 := F0 m 57 ls (.int (nI ((n 11) - 1)) :: [])) rfl ?_
  have hP : va_P (dC, dI) vwCl (wX cs a (un n 11 (n 11 - 1)) (uf f 18 (x_sl (f 18) t (n 11 - 1)))) H := by
    have e9 : (wX cs a (un n 11 ((n 11) - 1)) (uf f 18 (x_sl (f 18) t (n 11 - 1)))) = (wX cs a (un n 11 (n 11 - 1)) (uf f 18 (x_sl (f 18) t (n 11 - 1)))) := by rfl
    rw [← e9]; exact hP
  refine tp_eq (show _ = nI (n 11 - 1) by rfl) ?_
  exact wr_iret hx hb hr hlocks hP hS dX3_right_57
