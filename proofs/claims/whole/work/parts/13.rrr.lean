set_option maxHeartbeats 4000000 in
set_option maxRecDepth 100000 in
theorem c_X3_isRegister (l : Launch) (dC : Nat → ClassId) (dI : Nat → Nat → Nat) (cs : ClassId × ClassId) (a n : Nat → Nat) (f : Nat → Nat → Int32) (x : Int32) (hB : x_bd n)  : Met l yX3_isRegister wsX3_isRegister ({ frames := 0, cells := 0, slots := 0, locals := 0 }) (rdPc (dC, dI) vwCl (wX cs a n f) (tyl cs) [.ref (a 0), .int x]) (QcRead (b2i (inB x (n 0)))) 0 0 (fun _ => False) := by
  refine rd_of (cc := cX3_isRegister) (maxL := 2) (ret := (some .boolean)) (own := RX3) (by decide) rfl rfl (Nat.le_of_ble_eq_true rfl) ?_
  intro p e s m below meth c hx hb hr hml hts hown hlocks hP hK ls hl
  have hl : lv_has ls 2 [(0, .ref (a 0)), (1, .int x)] := hl
  have hinX3 : ∀ w ∈ wsX30, w ∈ wsX3_isRegister := by decide +kernel
  obtain ⟨B1, B2, B3, B4, B5, B6, B7, B8, B9, B10, B11, B12, B13, B14, B15⟩ := id hB
  refine lv_iload_n hx hb dX3_isRegister_0 rfl (lv_at hl 1 rfl) ?_
  refine lv_if_lt (tgt := 17) hx hb dX3_isRegister_1 (by decide) (fun c_1 => ?_) (fun c_1 => ?_)
  · refine lv_iconst (v := nI 0) hx hb dX3_isRegister_17 (by decide) ?_
    refine tp_eq (b_0 (by first | exact inB_lt c_1 | exact inB_in c_1 c_2 | exact inB_ge' c_2) : _ = b2i (inB x (n 0))) ?_
    exact rd_zret hx hb hr hlocks dX3_isRegister_18
  · refine lv_iload_n hx hb dX3_isRegister_4 rfl (lv_at hl 1 rfl) ?_
    refine lv_aload_n hx hb dX3_isRegister_5 rfl (lv_at hl 0 rfl) ?_
    refine va_get (D := (dC, dI)) (ci := 4) (v := .ref (a 4)) (C := RX3) (T := TX3) (N := 9) hx hb hts hinX3 hown hK hP 0 rfl rfl 3 (by decide) (hts (.fieldLink RX3 38 "RenameRows" "nameNow" "[I") (by decide +kernel)) (fun _ h9 => h9) rfl dX3_isRegister_6 ?_
    refine va_alen (D := (dC, dI)) hx hb hK hP 4 0 rfl rfl (v := nI (n 0)) rfl dX3_isRegister_9 ?_
    refine lv_icmp_ge (tgt := 17) hx hb dX3_isRegister_10 (by decide) (fun c_2 => ?_) (fun c_2 => ?_)
    · refine lv_iconst (v := nI 0) hx hb dX3_isRegister_17 (by decide) ?_
      refine tp_eq (b_0 (by first | exact inB_lt c_1 | exact inB_in c_1 c_2 | exact inB_ge' c_2) : _ = b2i (inB x (n 0))) ?_
      exact rd_zret hx hb hr hlocks dX3_isRegister_18
    · refine lv_iconst (v := nI 1) hx hb dX3_isRegister_13 (by decide) ?_
      refine lv_goto (tgt := 18) hx hb dX3_isRegister_14 (by decide) ?_
      refine tp_eq (b_1 (by first | exact inB_lt c_1 | exact inB_in c_1 c_2 | exact inB_ge' c_2) : _ = b2i (inB x (n 0))) ?_
      exact rd_zret hx hb hr hlocks dX3_isRegister_18

set_option maxHeartbeats 4000000 in
set_option maxRecDepth 100000 in
theorem c_X3_isRegisterOrNone (l : Launch) (dC : Nat → ClassId) (dI : Nat → Nat → Nat) (cs : ClassId × ClassId) (a n : Nat → Nat) (f : Nat → Nat → Int32) (x : Int32) (hB : x_bd n)  : Met l yX3_isRegisterOrNone wsX3_isRegisterOrNone ({ frames := 1, cells := 0, slots := 0, locals := 21 }) (rdPc (dC, dI) vwCl (wX cs a n f) (tyl cs) [.ref (a 0), .int x]) (QcRead (b2i (decide (x = -1) || inB x (n 0)))) 0 0 (fun _ => False) := by
  refine rd_of (cc := cX3_isRegisterOrNone) (maxL := 2) (ret := (some .boolean)) (own := RX3) (by decide) rfl rfl (Nat.le_of_ble_eq_true rfl) ?_
  intro p e s m below meth c hx hb hr hml hts hown hlocks hP hK ls hl
  have hl : lv_has ls 2 [(0, .ref (a 0)), (1, .int x)] := hl
  obtain ⟨B1, B2, B3, B4, B5, B6, B7, B8, B9, B10, B11, B12, B13, B14, B15⟩ := id hB
  refine lv_iload_n hx hb dX3_isRegisterOrNone_0 rfl (lv_at hl 1 rfl) ?_
  refine lv_iconst (v := (-1)) hx hb dX3_isRegisterOrNone_1 (by decide) ?_
  refine lv_icmp_eq (tgt := 13) hx hb dX3_isRegisterOrNone_2 (by decide) (fun c_1 => ?_) (fun c_1 => ?_)
  · refine lv_iconst (v := nI 1) hx hb dX3_isRegisterOrNone_13 (by decide) ?_
    refine lv_goto (tgt := 18) hx hb dX3_isRegisterOrNone_14 (by decide) ?_
    refine tp_eq (b_1 (by first | (simp [c_1]; done) | (simp [nI_0, c_1]; done) | (simp [c_1]; omega)) : _ = b2i (decide (x = -1) || inB x (n 0))) ?_
    exact rd_zret hx hb hr hlocks dX3_isRegisterOrNone_18
  · refine lv_aload_n hx hb dX3_isRegisterOrNone_5 rfl (lv_at hl 0 rfl) ?_
    refine lv_iload_n hx hb dX3_isRegisterOrNone_6 rfl (lv_at hl 1 rfl) ?_
    refine W.callR (W.runV (As := [.int x]) (rest := []) ⟨hx, hb, hml, hown, hts⟩ (c_X3_isRegister l dC dI cs a n f x hB) (cwV 1 hts gX3_isRegisterOrNone_X3_isRegister rfl rfl rfl (by decide +kernel) ⟨Nat.le_of_ble_eq_true rfl, Nat.le_of_ble_eq_true rfl⟩) (rd_preV (q := (RX3, TX3, 9)) hP hK 0 rfl rfl) rfl rfl hl.1 rfl (lv_room (Nat.le_of_ble_eq_true rfl)) dX3_isRegisterOrNone_7 ⟨Nat.zero_le _, Nat.zero_le _⟩) ?_
    refine W.eq (g2 := F0 m 10 ls (.int (b2i (inB x (n 0))) :: [])) rfl ?_
    refine lv_if_eq (tgt := 17) hx hb dX3_isRegisterOrNone_10 (by decide) (fun c_2 => ?_) (fun c_2 => ?_)
    · have c_2 : inB x (n 0) = false := b2i_f c_2
      refine lv_iconst (v := nI 0) hx hb dX3_isRegisterOrNone_17 (by decide) ?_
      refine tp_eq (b_0 (by first | (simp [c_1, c_2]; done) | (simp [nI_0, c_1, c_2]; done) | (simp [c_1, c_2]; omega)) : _ = b2i (decide (x = -1) || inB x (n 0))) ?_
      exact rd_zret hx hb hr hlocks dX3_isRegisterOrNone_18
    · have c_2 : inB x (n 0) = true := b2i_t c_2
      obtain ⟨jx, hjx, rfl⟩ := inB_t c_2 (by omega)
      refine lv_iconst (v := nI 1) hx hb dX3_isRegisterOrNone_13 (by decide) ?_
      refine lv_goto (tgt := 18) hx hb dX3_isRegisterOrNone_14 (by decide) ?_
      refine tp_eq (b_1 (by first | (simp [c_1, c_2, cl32_nI (show jx < 2 ^ 31 by omega)]; done) | (simp [nI_0, c_1, c_2, cl32_nI (show jx < 2 ^ 31 by omega)]; done) | (simp [c_1, c_2, cl32_nI (show jx < 2 ^ 31 by omega)]; omega)) : _ = b2i (decide ((nI jx) = -1) || inB (nI jx) (n 0))) ?_
      exact rd_zret hx hb hr hlocks dX3_isRegisterOrNone_18

set_option maxHeartbeats 4000000 in
set_option maxRecDepth 100000 in
theorem c_X3_currentName (l : Launch) (dC : Nat → ClassId) (dI : Nat → Nat → Nat) (cs : ClassId × ClassId) (a n : Nat → Nat) (f : Nat → Nat → Int32) (x : Int32) (hB : x_bd n)  : Met l yX3_currentName wsX3_currentName ({ frames := 1, cells := 0, slots := 0, locals := 21 }) (rdPc (dC, dI) vwCl (wX cs a n f) (tyl cs) [.ref (a 0), .int x]) (QcRead (x_cur n f x)) 0 0 (fun _ => False) := by
  refine rd_of (cc := cX3_currentName) (maxL := 2) (ret := (some .int)) (own := RX3) (by decide) rfl rfl (Nat.le_of_ble_eq_true rfl) ?_
  intro p e s m below meth c hx hb hr hml hts hown hlocks hP hK ls hl
  have hl : lv_has ls 2 [(0, .ref (a 0)), (1, .int x)] := hl
  have hinX3 : ∀ w ∈ wsX30, w ∈ wsX3_currentName := by decide +kernel
  obtain ⟨B1, B2, B3, B4, B5, B6, B7, B8, B9, B10, B11, B12, B13, B14, B15⟩ := id hB
  refine lv_aload_n hx hb dX3_currentName_0 rfl (lv_at hl 0 rfl) ?_
  refine lv_iload_n hx hb dX3_currentName_1 rfl (lv_at hl 1 rfl) ?_
  refine W.callR (W.runV (As := [.int x]) (rest := []) ⟨hx, hb, hml, hown, hts⟩ (c_X3_isRegister l dC dI cs a n f x hB) (cwV 1 hts gX3_currentName_X3_isRegister rfl rfl rfl (by decide +kernel) ⟨Nat.le_of_ble_eq_true rfl, Nat.le_of_ble_eq_true rfl⟩) (rd_preV (q := (RX3, TX3, 9)) hP hK 0 rfl rfl) rfl rfl hl.1 rfl (lv_room (Nat.le_of_ble_eq_true rfl)) dX3_currentName_2 ⟨Nat.zero_le _, Nat.zero_le _⟩) ?_
  refine W.eq (g2 := F0 m 5 ls (.int (b2i (inB x (n 0))) :: [])) rfl ?_
  refine lv_if_eq (tgt := 17) hx hb dX3_currentName_5 (by decide) (fun c_1 => ?_) (fun c_1 => ?_)
  · have c_1 : inB x (n 0) = false := b2i_f c_1
    refine lv_iconst (v := (-1)) hx hb dX3_currentName_17 (by decide) ?_
    refine tp_eq (show _ = x_cur n f x by first | (simp [x_cur, c_1]; done) | (simp [nI_0, x_cur, c_1]; done) | (simp [x_cur, c_1]; omega)) ?_
    exact rd_iret hx hb hr hlocks dX3_currentName_18
  · have c_1 : inB x (n 0) = true := b2i_t c_1
    obtain ⟨jx, hjx, rfl⟩ := inB_t c_1 (by omega)
    refine lv_aload_n hx hb dX3_currentName_8 rfl (lv_at hl 0 rfl) ?_
    refine va_get (D := (dC, dI)) (ci := 4) (v := .ref (a 4)) (C := RX3) (T := TX3) (N := 9) hx hb hts hinX3 hown hK hP 0 rfl rfl 3 (by decide) (hts (.fieldLink RX3 38 "RenameRows" "nameNow" "[I") (by decide +kernel)) (fun _ h9 => h9) rfl dX3_currentName_9 ?_
    refine lv_iload_n hx hb dX3_currentName_12 rfl (lv_at hl 1 rfl) ?_
    refine ar_ld (D := (dC, dI)) (n := n 0) (f := f 4) hx hb hK hP 4 0 rfl rfl (by omega) (by omega) dX3_currentName_13 ?_
    refine lv_goto (tgt := 18) hx hb dX3_currentName_14 (by decide) ?_
    refine tp_eq (show _ = x_cur n f (nI jx) by first | (simp [x_cur, c_1, cl32_nI (show jx < 2 ^ 31 by omega)]; done) | (simp [nI_0, x_cur, c_1, cl32_nI (show jx < 2 ^ 31 by omega)]; done) | (simp [x_cur, c_1, cl32_nI (show jx < 2 ^ 31 by omega)]; omega)) ?_
    exact rd_iret hx hb hr hlocks dX3_currentName_18

set_option maxHeartbeats 4000000 in
set_option maxRecDepth 100000 in
theorem c_X3_isAble (l : Launch) (dC : Nat → ClassId) (dI : Nat → Nat → Nat) (cs : ClassId × ClassId) (a n : Nat → Nat) (f : Nat → Nat → Int32) (j : Nat) (hB : x_bd n) (h1 : j < n 2)  : Met l yX3_isAble wsX3_isAble ({ frames := 3, cells := 0, slots := 0, locals := 64 }) (rdPc (dC, dI) vwCl (wX cs a n f) (tyl cs) [.ref (a 0), .int (nI j)]) (QcRead (b2i (x_able n f j))) 0 0 (fun _ => False) := by
  refine rd_of (cc := cX3_isAble) (maxL := 2) (ret := (some .boolean)) (own := RX3) (by decide) rfl rfl (Nat.le_of_ble_eq_true rfl) ?_
  intro p e s m below meth c hx hb hr hml hts hown hlocks hP hK ls hl
  have hl : lv_has ls 2 [(0, .ref (a 0)), (1, .int (nI j))] := hl
  have hinX3 : ∀ w ∈ wsX30, w ∈ wsX3_isAble := by decide +kernel
  obtain ⟨B1, B2, B3, B4, B5, B6, B7, B8, B9, B10, B11, B12, B13, B14, B15⟩ := id hB
  refine lv_aload_n hx hb dX3_isAble_0 rfl (lv_at hl 0 rfl) ?_
  refine va_get (D := (dC, dI)) (ci := 4) (v := .ref (a 2)) (C := RX3) (T := TX3) (N := 9) hx hb hts hinX3 hown hK hP 0 rfl rfl 1 (by decide) (hts (.fieldLink RX3 27 "RenameRows" "ring" "LRenameRows$Ring;") (by decide +kernel)) (fun _ h9 => h9) rfl dX3_isAble_1 ?_
  refine lv_iload_n hx hb dX3_isAble_4 rfl (lv_at hl 1 rfl) ?_
  refine lv_iconst (v := nI 0) hx hb dX3_isAble_5 (by decide) ?_
  refine W.callR (W.runV (As := [.int (nI j), .int (nI 0)]) (rest := []) ⟨hx, hb, hml, hown, hts⟩ (c_X2_isInState l dC dI cs a n f (nI j) (nI 0) hB) (cwV 2 hts gX3_isAble_X2_isInState rfl rfl rfl (by decide +kernel) ⟨Nat.le_of_ble_eq_true rfl, Nat.le_of_ble_eq_true rfl⟩) (rd_preV (q := (RX2, TX2, 10)) hP hK 2 rfl rfl) rfl rfl hl.1 rfl (lv_room (Nat.le_of_ble_eq_true rfl)) dX3_isAble_6 ⟨Nat.zero_le _, Nat.zero_le _⟩) ?_
  refine W.eq (g2 := F0 m 9 ls (.int (b2i (x_isIn n f (nI j) (nI 0))) :: [])) rfl ?_
  refine lv_if_eq (tgt := 52) hx hb dX3_isAble_9 (by decide) (fun c_1 => ?_) (fun c_1 => ?_)
  · have c_1 : x_isIn n f (nI j) (nI 0) = false := b2i_f c_1
    refine lv_iconst (v := nI 0) hx hb dX3_isAble_52 (by decide) ?_
    refine tp_eq (b_0 (by first | (simp [x_able, c_1]; done) | (simp [nI_0, x_able, c_1]; done) | (simp [x_able, c_1]; omega)) : _ = b2i (x_able n f j)) ?_
    exact rd_zret hx hb hr hlocks dX3_isAble_53
  · have c_1 : x_isIn n f (nI j) (nI 0) = true := b2i_t c_1
    refine lv_aload_n hx hb dX3_isAble_12 rfl (lv_at hl 0 rfl) ?_
    refine va_get (D := (dC, dI)) (ci := 4) (v := .ref (a 1)) (C := RX3) (T := TX3) (N := 9) hx hb hts hinX3 hown hK hP 0 rfl rfl 0 (by decide) (hts (.fieldLink RX3 18 "RenameRows" "names" "LRenameRows$Names;") (by decide +kernel)) (fun _ h9 => h9) rfl dX3_isAble_13 ?_
    refine lv_aload_n hx hb dX3_isAble_16 rfl (lv_at hl 0 rfl) ?_
    refine va_get (D := (dC, dI)) (ci := 4) (v := .ref (a 2)) (C := RX3) (T := TX3) (N := 9) hx hb hts hinX3 hown hK hP 0 rfl rfl 1 (by decide) (hts (.fieldLink RX3 27 "RenameRows" "ring" "LRenameRows$Ring;") (by decide +kernel)) (fun _ h9 => h9) rfl dX3_isAble_17 ?_
    refine lv_iload_n hx hb dX3_isAble_20 rfl (lv_at hl 1 rfl) ?_
    refine W.callR (W.runV (As := [.int (nI j)]) (rest := [.ref (a 1)]) ⟨hx, hb, hml, hown, hts⟩ (c_X2_readAAt l dC dI cs a n f (nI j) hB) (cwV 1 hts gX3_isAble_X2_readAAt rfl rfl rfl (by decide +kernel) ⟨Nat.le_of_ble_eq_true rfl, Nat.le_of_ble_eq_true rfl⟩) (rd_preV (q := (RX2, TX2, 10)) hP hK 2 rfl rfl) rfl rfl hl.1 rfl (lv_room (Nat.le_of_ble_eq_true rfl)) dX3_isAble_21 ⟨Nat.zero_le _, Nat.zero_le _⟩) ?_
    refine W.eq (g2 := F0 m 24 ls (.int (x_at 10 n f (nI j)) :: [.ref (a 1)])) rfl ?_
    refine tp_eq (x_at_nI (by omega) (by omega)) ?_
    refine W.eq (g2 := F0 m 24 ls (.int (f 10 j) :: [.ref (a 1)])) rfl ?_
    refine W.callR (W.runV (As := [.int (f 10 j)]) (rest := []) ⟨hx, hb, hml, hown, hts⟩ (c_X1_isReadyOrNone l dC dI cs a n f (f 10 j) hB) (cwV 1 hts gX3_isAble_X1_isReadyOrNone rfl rfl rfl (by decide +kernel) ⟨Nat.le_of_ble_eq_true rfl, Nat.le_of_ble_eq_true rfl⟩) (rd_preV (q := (RX1, TX1, 5)) hP hK 1 rfl rfl) rfl rfl hl.1 rfl (lv_room (Nat.le_of_ble_eq_true rfl)) dX3_isAble_24 ⟨Nat.zero_le _, Nat.zero_le _⟩) ?_
    refine W.eq (g2 := F0 m 27 ls (.int (b2i (x_rdy n f (f 10 j))) :: [])) rfl ?_
    refine lv_if_eq (tgt := 52) hx hb dX3_isAble_27 (by decide) (fun c_2 => ?_) (fun c_2 => ?_)
    · have c_2 : x_rdy n f (f 10 j) = false := b2i_f c_2
      refine lv_iconst (v := nI 0) hx hb dX3_isAble_52 (by decide) ?_
      refine tp_eq (b_0 (by first | (simp [x_able, c_1, c_2]; done) | (simp [nI_0, x_able, c_1, c_2]; done) | (simp [x_able, c_1, c_2]; omega)) : _ = b2i (x_able n f j)) ?_
      exact rd_zret hx hb hr hlocks dX3_isAble_53
    · have c_2 : x_rdy n f (f 10 j) = true := b2i_t c_2
      refine lv_aload_n hx hb dX3_isAble_30 rfl (lv_at hl 0 rfl) ?_
      refine va_get (D := (dC, dI)) (ci := 4) (v := .ref (a 1)) (C := RX3) (T := TX3) (N := 9) hx hb hts hinX3 hown hK hP 0 rfl rfl 0 (by decide) (hts (.fieldLink RX3 18 "RenameRows" "names" "LRenameRows$Names;") (by decide +kernel)) (fun _ h9 => h9) rfl dX3_isAble_31 ?_
      refine lv_aload_n hx hb dX3_isAble_34 rfl (lv_at hl 0 rfl) ?_
      refine va_get (D := (dC, dI)) (ci := 4) (v := .ref (a 2)) (C := RX3) (T := TX3) (N := 9) hx hb hts hinX3 hown hK hP 0 rfl rfl 1 (by decide) (hts (.fieldLink RX3 27 "RenameRows" "ring" "LRenameRows$Ring;") (by decide +kernel)) (fun _ h9 => h9) rfl dX3_isAble_35 ?_
      refine lv_iload_n hx hb dX3_isAble_38 rfl (lv_at hl 1 rfl) ?_
      refine W.callR (W.runV (As := [.int (nI j)]) (rest := [.ref (a 1)]) ⟨hx, hb, hml, hown, hts⟩ (c_X2_readBAt l dC dI cs a n f (nI j) hB) (cwV 1 hts gX3_isAble_X2_readBAt rfl rfl rfl (by decide +kernel) ⟨Nat.le_of_ble_eq_true rfl, Nat.le_of_ble_eq_true rfl⟩) (rd_preV (q := (RX2, TX2, 10)) hP hK 2 rfl rfl) rfl rfl hl.1 rfl (lv_room (Nat.le_of_ble_eq_true rfl)) dX3_isAble_39 ⟨Nat.zero_le _, Nat.zero_le _⟩) ?_
      refine W.eq (g2 := F0 m 42 ls (.int (x_at 11 n f (nI j)) :: [.ref (a 1)])) rfl ?_
      refine tp_eq (x_at_nI (by omega) (by omega)) ?_
      refine W.eq (g2 := F0 m 42 ls (.int (f 11 j) :: [.ref (a 1)])) rfl ?_
      refine W.callR (W.runV (As := [.int (f 11 j)]) (rest := []) ⟨hx, hb, hml, hown, hts⟩ (c_X1_isReadyOrNone l dC dI cs a n f (f 11 j) hB) (cwV 1 hts gX3_isAble_X1_isReadyOrNone rfl rfl rfl (by decide +kernel) ⟨Nat.le_of_ble_eq_true rfl, Nat.le_of_ble_eq_true rfl⟩) (rd_preV (q := (RX1, TX1, 5)) hP hK 1 rfl rfl) rfl rfl hl.1 rfl (lv_room (Nat.le_of_ble_eq_true rfl)) dX3_isAble_42 ⟨Nat.zero_le _, Nat.zero_le _⟩) ?_
      refine W.eq (g2 := F0 m 45 ls (.int (b2i (x_rdy n f (f 11 j))) :: [])) rfl ?_
      refine lv_if_eq (tgt := 52) hx hb dX3_isAble_45 (by decide) (fun c_3 => ?_) (fun c_3 => ?_)
      · have c_3 : x_rdy n f (f 11 j) = false := b2i_f c_3
        refine lv_iconst (v := nI 0) hx hb dX3_isAble_52 (by decide) ?_
        refine tp_eq (b_0 (by first | (simp [x_able, c_1, c_2, c_3]; done) | (simp [nI_0, x_able, c_1, c_2, c_3]; done) | (simp [x_able, c_1, c_2, c_3]; omega)) : _ = b2i (x_able n f j)) ?_
        exact rd_zret hx hb hr hlocks dX3_isAble_53
      · have c_3 : x_rdy n f (f 11 j) = true := b2i_t c_3
        refine lv_iconst (v := nI 1) hx hb dX3_isAble_48 (by decide) ?_
        refine lv_goto (tgt := 53) hx hb dX3_isAble_49 (by decide) ?_
        refine tp_eq (b_1 (by first | (simp [x_able, c_1, c_2, c_3]; done) | (simp [nI_0, x_able, c_1, c_2, c_3]; done) | (simp [x_able, c_1, c_2, c_3]; omega)) : _ = b2i (x_able n f j)) ?_
        exact rd_zret hx hb hr hlocks dX3_isAble_53

set_option maxHeartbeats 4000000 in
set_option maxRecDepth 100000 in
theorem c_X3_oldestAbleFor (l : Launch) (dC : Nat → ClassId) (dI : Nat → Nat → Nat) (cs : ClassId × ClassId) (a n : Nat → Nat) (f : Nat → Nat → Int32) (x : Int32) (hB : x_bd n)  : Met l yX3_oldestAbleFor wsX3_oldestAbleFor ({ frames := 4, cells := 0, slots := 0, locals := 85 }) (rdPc (dC, dI) vwCl (wX cs a n f) (tyl cs) [.ref (a 0), .int x]) (QcRead (x_find n f x (n 9) 0)) 0 0 (fun _ => False) := by
  refine rd_of (cc := cX3_oldestAbleFor) (maxL := 4) (ret := (some .int)) (own := RX3) (by decide) rfl rfl (Nat.le_of_ble_eq_true rfl) ?_
  intro p e s m below meth c hx hb hr hml hts hown hlocks hP hK ls hl
  have hl : lv_has ls 4 [(0, .ref (a 0)), (1, .int x)] := hl
  have hinX3 : ∀ w ∈ wsX30, w ∈ wsX3_oldestAbleFor := by decide +kernel
  obtain ⟨B1, B2, B3, B4, B5, B6, B7, B8, B9, B10, B11, B12, B13, B14, B15⟩ := id hB
  refine lv_iconst (v := nI 0) hx hb dX3_oldestAbleFor_0 (by decide) ?_
  refine lv_istore_n (lv' := [(2, .int (nI 0)), (0, .ref (a 0)), (1, .int x)]) hx hb dX3_oldestAbleFor_1 rfl hl (by decide) rfl (fun ls hl => ?_)
  have key : ∀ (k t : Nat), t + k = n 9 → x_find n f x (n 9) 0 = x_find n f x k t → ∀ ls : Array Slot, lv_has ls 4 [(2, .int (nI t)), (0, .ref (a 0)), (1, .int x)] → W p l e ({ frames := 4, cells := 0, slots := 0, locals := 85 } : Room) s m ([.ref (a 0), .int x] : List Value).toArray below meth c s.heap [] 0 0 (MQ below (QcRead (x_find n f x (n 9) 0)) ([.ref (a 0), .int x] : List Value).toArray s 0 0 (fun _ => False)) (F0 m 2 ls []) := by
    intro k
    induction k with
    | zero =>
      intro t ht hs ls hl
      refine lv_iload_n hx hb dX3_oldestAbleFor_2 rfl (lv_at hl 0 rfl) ?_
      refine lv_aload_n hx hb dX3_oldestAbleFor_3 rfl (lv_at hl 1 rfl) ?_
      refine va_get (D := (dC, dI)) (ci := 4) (v := .ref (a 2)) (C := RX3) (T := TX3) (N := 9) hx hb hts hinX3 hown hK hP 0 rfl rfl 1 (by decide) (hts (.fieldLink RX3 27 "RenameRows" "ring" "LRenameRows$Ring;") (by decide +kernel)) (fun _ h9 => h9) rfl dX3_oldestAbleFor_4 ?_
      refine W.callR (W.runV (As := []) (rest := [.int (nI t)]) ⟨hx, hb, hml, hown, hts⟩ (c_X2_rowCount l dC dI cs a n f hB) (cwV 0 hts gX3_oldestAbleFor_X2_rowCount rfl rfl rfl (by decide +kernel) ⟨Nat.le_of_ble_eq_true rfl, Nat.le_of_ble_eq_true rfl⟩) (rd_preV (q := (RX2, TX2, 10)) hP hK 2 rfl rfl) rfl rfl hl.1 rfl (lv_room (Nat.le_of_ble_eq_true rfl)) dX3_oldestAbleFor_7 ⟨Nat.zero_le _, Nat.zero_le _⟩) ?_
      refine W.eq (g2 := F0 m 10 ls (.int (nI (n 9)) :: [.int (nI t)])) rfl ?_
      refine lv_icmp_ge (tgt := 50) hx hb dX3_oldestAbleFor_10 (by decide) (fun c_1 => ?_) (fun c_1 => absurd (nI_le (by omega) (by omega)) c_1)
      have c_1 : (n 9) ≤ t := (nI_leI (by omega) (by omega)).mp c_1
      refine lv_iconst (v := (-1)) hx hb dX3_oldestAbleFor_50 (by decide) ?_
      refine tp_eq (show _ = x_find n f x (n 9) 0 by rw [hs]; simp [x_find, c_1]) ?_
      exact rd_iret hx hb hr hlocks dX3_oldestAbleFor_51
    | succ k ih =>
      intro t ht hs ls hl
      refine lv_iload_n hx hb dX3_oldestAbleFor_2 rfl (lv_at hl 0 rfl) ?_
      refine lv_aload_n hx hb dX3_oldestAbleFor_3 rfl (lv_at hl 1 rfl) ?_
      refine va_get (D := (dC, dI)) (ci := 4) (v := .ref (a 2)) (C := RX3) (T := TX3) (N := 9) hx hb hts hinX3 hown hK hP 0 rfl rfl 1 (by decide) (hts (.fieldLink RX3 27 "RenameRows" "ring" "LRenameRows$Ring;") (by decide +kernel)) (fun _ h9 => h9) rfl dX3_oldestAbleFor_4 ?_
      refine W.callR (W.runV (As := []) (rest := [.int (nI t)]) ⟨hx, hb, hml, hown, hts⟩ (c_X2_rowCount l dC dI cs a n f hB) (cwV 0 hts gX3_oldestAbleFor_X2_rowCount rfl rfl rfl (by decide +kernel) ⟨Nat.le_of_ble_eq_true rfl, Nat.le_of_ble_eq_true rfl⟩) (rd_preV (q := (RX2, TX2, 10)) hP hK 2 rfl rfl) rfl rfl hl.1 rfl (lv_room (Nat.le_of_ble_eq_true rfl)) dX3_oldestAbleFor_7 ⟨Nat.zero_le _, Nat.zero_le _⟩) ?_
      refine W.eq (g2 := F0 m 10 ls (.int (nI (n 9)) :: [.int (nI t)])) rfl ?_
      refine lv_icmp_ge (tgt := 50) hx hb dX3_oldestAbleFor_10 (by decide) (fun c_2 => absurd ((nI_leI (by omega) (by omega)).mp c_2) (by omega)) (fun c_2 => ?_)
      have c_2 : ¬ (n 9) ≤ t := fun q => c_2 ((nI_leI (by omega) (by omega)).mpr q)
      refine lv_aload_n hx hb dX3_oldestAbleFor_13 rfl (lv_at hl 1 rfl) ?_
      refine va_get (D := (dC, dI)) (ci := 4) (v := .ref (a 2)) (C := RX3) (T := TX3) (N := 9) hx hb hts hinX3 hown hK hP 0 rfl rfl 1 (by decide) (hts (.fieldLink RX3 27 "RenameRows" "ring" "LRenameRows$Ring;") (by decide +kernel)) (fun _ h9 => h9) rfl dX3_oldestAbleFor_14 ?_
      refine lv_iload_n hx hb dX3_oldestAbleFor_17 rfl (lv_at hl 0 rfl) ?_
      refine W.callR (W.runV (As := [.int (nI t)]) (rest := []) ⟨hx, hb, hml, hown, hts⟩ (c_X2_placeOfAge l dC dI cs a n f t hB (by omega)) (cwV 1 hts gX3_oldestAbleFor_X2_placeOfAge rfl rfl rfl (by decide +kernel) ⟨Nat.le_of_ble_eq_true rfl, Nat.le_of_ble_eq_true rfl⟩) (rd_preV (q := (RX2, TX2, 10)) hP hK 2 rfl rfl) rfl rfl hl.1 rfl (lv_room (Nat.le_of_ble_eq_true rfl)) dX3_oldestAbleFor_18 ⟨Nat.zero_le _, Nat.zero_le _⟩) ?_
      refine W.eq (g2 := F0 m 21 ls (.int (nI (x_pos n t)) :: [])) rfl ?_
      have k_3 := x_pos_lt (n := n) (i := t) (by omega) (by omega)
      refine lv_istore_n (lv' := [(3, .int (nI (x_pos n t))), (2, .int (nI t)), (0, .ref (a 0)), (1, .int x)]) hx hb dX3_oldestAbleFor_21 rfl hl (by decide) rfl (fun ls hl => ?_)
      refine lv_aload_n hx hb dX3_oldestAbleFor_22 rfl (lv_at hl 2 rfl) ?_
      refine va_get (D := (dC, dI)) (ci := 4) (v := .ref (a 2)) (C := RX3) (T := TX3) (N := 9) hx hb hts hinX3 hown hK hP 0 rfl rfl 1 (by decide) (hts (.fieldLink RX3 27 "RenameRows" "ring" "LRenameRows$Ring;") (by decide +kernel)) (fun _ h9 => h9) rfl dX3_oldestAbleFor_23 ?_
      refine lv_iload_n hx hb dX3_oldestAbleFor_26 rfl (lv_at hl 0 rfl) ?_
      refine W.callR (W.runV (As := [.int (nI (x_pos n t))]) (rest := []) ⟨hx, hb, hml, hown, hts⟩ (c_X2_portAt l dC dI cs a n f (nI (x_pos n t)) hB) (cwV 1 hts gX3_oldestAbleFor_X2_portAt rfl rfl rfl (by decide +kernel) ⟨Nat.le_of_ble_eq_true rfl, Nat.le_of_ble_eq_true rfl⟩) (rd_preV (q := (RX2, TX2, 10)) hP hK 2 rfl rfl) rfl rfl hl.1 rfl (lv_room (Nat.le_of_ble_eq_true rfl)) dX3_oldestAbleFor_27 ⟨Nat.zero_le _, Nat.zero_le _⟩) ?_
      refine W.eq (g2 := F0 m 30 ls (.int (x_at 15 n f (nI (x_pos n t))) :: [])) rfl ?_
      refine tp_eq (x_at_nI (by omega) (by omega)) ?_
      refine W.eq (g2 := F0 m 30 ls (.int (f 15 (x_pos n t)) :: [])) rfl ?_
      refine lv_iload_n hx hb dX3_oldestAbleFor_30 rfl (lv_at hl 3 rfl) ?_
      refine lv_icmp_ne (tgt := 44) hx hb dX3_oldestAbleFor_31 (by decide) (fun c_4 => ?_) (fun c_4 => ?_)
      · refine lv_iinc (v := nI (t + 1)) (lv' := [(2, .int (nI (t + 1))), (3, .int (nI (x_pos n t))), (0, .ref (a 0)), (1, .int x)]) hx hb dX3_oldestAbleFor_44 hl (k := 1) rfl (nI_succ t).symm (by decide) rfl (fun ls hl => ?_)
        refine lv_goto (tgt := 2) hx hb dX3_oldestAbleFor_47 (by decide) ?_
        exact ih (t + 1) (by omega) (by rw [hs]; simp [x_find, c_4]) ls (lv_sub hl [0, 2, 3] rfl)
      · refine lv_aload_n hx hb dX3_oldestAbleFor_34 rfl (lv_at hl 2 rfl) ?_
        refine lv_iload_n hx hb dX3_oldestAbleFor_35 rfl (lv_at hl 0 rfl) ?_
        refine W.callR (W.runV (As := [.int (nI (x_pos n t))]) (rest := []) ⟨hx, hb, hml, hown, hts⟩ (c_X3_isAble l dC dI cs a n f (x_pos n t) hB (by omega)) (cwV 1 hts gX3_oldestAbleFor_X3_isAble rfl rfl rfl (by decide +kernel) ⟨Nat.le_of_ble_eq_true rfl, Nat.le_of_ble_eq_true rfl⟩) (rd_preV (q := (RX3, TX3, 9)) hP hK 0 rfl rfl) rfl rfl hl.1 rfl (lv_room (Nat.le_of_ble_eq_true rfl)) dX3_oldestAbleFor_36 ⟨Nat.zero_le _, Nat.zero_le _⟩) ?_
        refine W.eq (g2 := F0 m 39 ls (.int (b2i (x_able n f (x_pos n t))) :: [])) rfl ?_
        refine lv_if_eq (tgt := 44) hx hb dX3_oldestAbleFor_39 (by decide) (fun c_5 => ?_) (fun c_5 => ?_)
        · have c_5 : x_able n f (x_pos n t) = false := b2i_f c_5
          refine lv_iinc (v := nI (t + 1)) (lv' := [(2, .int (nI (t + 1))), (3, .int (nI (x_pos n t))), (0, .ref (a 0)), (1, .int x)]) hx hb dX3_oldestAbleFor_44 hl (k := 1) rfl (nI_succ t).symm (by decide) rfl (fun ls hl => ?_)
          refine lv_goto (tgt := 2) hx hb dX3_oldestAbleFor_47 (by decide) ?_
          exact ih (t + 1) (by omega) (by rw [hs]; simp [x_find, c_5]) ls (lv_sub hl [0, 2, 3] rfl)
        · have c_5 : x_able n f (x_pos n t) = true := b2i_t c_5
          refine lv_iload_n hx hb dX3_oldestAbleFor_42 rfl (lv_at hl 0 rfl) ?_
          refine tp_eq (show _ = x_find n f x (n 9) 0 by rw [hs]; simp [x_find, c_2, c_4, c_5]) ?_
          exact rd_iret hx hb hr hlocks dX3_oldestAbleFor_43
  exact key (n 9) 0 (by omega) rfl ls (lv_sub hl [0, 1, 2] rfl)

set_option maxHeartbeats 4000000 in
set_option maxRecDepth 100000 in
theorem c_X3_countAble (l : Launch) (dC : Nat → ClassId) (dI : Nat → Nat → Nat) (cs : ClassId × ClassId) (a n : Nat → Nat) (f : Nat → Nat → Int32) (hB : x_bd n)  : Met l yX3_countAble wsX3_countAble ({ frames := 4, cells := 0, slots := 0, locals := 85 }) (rdPc (dC, dI) vwCl (wX cs a n f) (tyl cs) [.ref (a 0)]) (QcRead (nI (x_cnt n f (n 9)))) 0 0 (fun _ => False) := by
  refine rd_of (cc := cX3_countAble) (maxL := 3) (ret := (some .int)) (own := RX3) (by decide) rfl rfl (Nat.le_of_ble_eq_true rfl) ?_
  intro p e s m below meth c hx hb hr hml hts hown hlocks hP hK ls hl
  have hl : lv_has ls 3 [(0, .ref (a 0))] := hl
  have hinX3 : ∀ w ∈ wsX30, w ∈ wsX3_countAble := by decide +kernel
  obtain ⟨B1, B2, B3, B4, B5, B6, B7, B8, B9, B10, B11, B12, B13, B14, B15⟩ := id hB
  refine lv_iconst (v := nI 0) hx hb dX3_countAble_0 (by decide) ?_
  refine lv_istore_n (lv' := [(1, .int (nI 0)), (0, .ref (a 0))]) hx hb dX3_countAble_1 rfl hl (by decide) rfl (fun ls hl => ?_)
  refine lv_iconst (v := nI 0) hx hb dX3_countAble_2 (by decide) ?_
  refine lv_istore_n (lv' := [(2, .int (nI 0)), (1, .int (nI 0)), (0, .ref (a 0))]) hx hb dX3_countAble_3 rfl hl (by decide) rfl (fun ls hl => ?_)
  have key : ∀ (k t v : Nat), t + k = n 9 → v = x_cnt n f t → ∀ ls : Array Slot, lv_has ls 3 [(2, .int (nI t)), (1, .int (nI v)), (0, .ref (a 0))] → W p l e ({ frames := 4, cells := 0, slots := 0, locals := 85 } : Room) s m ([.ref (a 0)] : List Value).toArray below meth c s.heap [] 0 0 (MQ below (QcRead (nI (x_cnt n f (n 9)))) ([.ref (a 0)] : List Value).toArray s 0 0 (fun _ => False)) (F0 m 4 ls []) := by
    intro k
    induction k with
    | zero =>
      intro t v ht hs ls hl
      refine lv_iload_n hx hb dX3_countAble_4 rfl (lv_at hl 0 rfl) ?_
      refine lv_aload_n hx hb dX3_countAble_5 rfl (lv_at hl 2 rfl) ?_
      refine va_get (D := (dC, dI)) (ci := 4) (v := .ref (a 2)) (C := RX3) (T := TX3) (N := 9) hx hb hts hinX3 hown hK hP 0 rfl rfl 1 (by decide) (hts (.fieldLink RX3 27 "RenameRows" "ring" "LRenameRows$Ring;") (by decide +kernel)) (fun _ h9 => h9) rfl dX3_countAble_6 ?_
      refine W.callR (W.runV (As := []) (rest := [.int (nI t)]) ⟨hx, hb, hml, hown, hts⟩ (c_X2_rowCount l dC dI cs a n f hB) (cwV 0 hts gX3_countAble_X2_rowCount rfl rfl rfl (by decide +kernel) ⟨Nat.le_of_ble_eq_true rfl, Nat.le_of_ble_eq_true rfl⟩) (rd_preV (q := (RX2, TX2, 10)) hP hK 2 rfl rfl) rfl rfl hl.1 rfl (lv_room (Nat.le_of_ble_eq_true rfl)) dX3_countAble_9 ⟨Nat.zero_le _, Nat.zero_le _⟩) ?_
      refine W.eq (g2 := F0 m 12 ls (.int (nI (n 9)) :: [.int (nI t)])) rfl ?_
      refine lv_icmp_ge (tgt := 39) hx hb dX3_countAble_12 (by decide) (fun c_1 => ?_) (fun c_1 => absurd (nI_le (by omega) (by omega)) c_1)
      have c_1 : (n 9) ≤ t := (nI_leI (by omega) (by omega)).mp c_1
      refine lv_iload_n hx hb dX3_countAble_39 rfl (lv_at hl 1 rfl) ?_
      refine tp_eq (show _ = nI (x_cnt n f (n 9)) by rw [hs, show t = n 9 from by omega]) ?_
      exact rd_iret hx hb hr hlocks dX3_countAble_40
    | succ k ih =>
      intro t v ht hs ls hl
      refine lv_iload_n hx hb dX3_countAble_4 rfl (lv_at hl 0 rfl) ?_
      refine lv_aload_n hx hb dX3_countAble_5 rfl (lv_at hl 2 rfl) ?_
      refine va_get (D := (dC, dI)) (ci := 4) (v := .ref (a 2)) (C := RX3) (T := TX3) (N := 9) hx hb hts hinX3 hown hK hP 0 rfl rfl 1 (by decide) (hts (.fieldLink RX3 27 "RenameRows" "ring" "LRenameRows$Ring;") (by decide +kernel)) (fun _ h9 => h9) rfl dX3_countAble_6 ?_
      refine W.callR (W.runV (As := []) (rest := [.int (nI t)]) ⟨hx, hb, hml, hown, hts⟩ (c_X2_rowCount l dC dI cs a n f hB) (cwV 0 hts gX3_countAble_X2_rowCount rfl rfl rfl (by decide +kernel) ⟨Nat.le_of_ble_eq_true rfl, Nat.le_of_ble_eq_true rfl⟩) (rd_preV (q := (RX2, TX2, 10)) hP hK 2 rfl rfl) rfl rfl hl.1 rfl (lv_room (Nat.le_of_ble_eq_true rfl)) dX3_countAble_9 ⟨Nat.zero_le _, Nat.zero_le _⟩) ?_
      refine W.eq (g2 := F0 m 12 ls (.int (nI (n 9)) :: [.int (nI t)])) rfl ?_
      refine lv_icmp_ge (tgt := 39) hx hb dX3_countAble_12 (by decide) (fun c_2 => absurd ((nI_leI (by omega) (by omega)).mp c_2) (by omega)) (fun c_2 => ?_)
      have c_2 : ¬ (n 9) ≤ t := fun q => c_2 ((nI_leI (by omega) (by omega)).mpr q)
      refine lv_aload_n hx hb dX3_countAble_15 rfl (lv_at hl 2 rfl) ?_
      refine lv_aload_n hx hb dX3_countAble_16 rfl (lv_at hl 2 rfl) ?_
      refine va_get (D := (dC, dI)) (ci := 4) (v := .ref (a 2)) (C := RX3) (T := TX3) (N := 9) hx hb hts hinX3 hown hK hP 0 rfl rfl 1 (by decide) (hts (.fieldLink RX3 27 "RenameRows" "ring" "LRenameRows$Ring;") (by decide +kernel)) (fun _ h9 => h9) rfl dX3_countAble_17 ?_
      refine lv_iload_n hx hb dX3_countAble_20 rfl (lv_at hl 0 rfl) ?_
      refine W.callR (W.runV (As := [.int (nI t)]) (rest := [.ref (a 0)]) ⟨hx, hb, hml, hown, hts⟩ (c_X2_placeOfAge l dC dI cs a n f t hB (by omega)) (cwV 1 hts gX3_countAble_X2_placeOfAge rfl rfl rfl (by decide +kernel) ⟨Nat.le_of_ble_eq_true rfl, Nat.le_of_ble_eq_true rfl⟩) (rd_preV (q := (RX2, TX2, 10)) hP hK 2 rfl rfl) rfl rfl hl.1 rfl (lv_room (Nat.le_of_ble_eq_true rfl)) dX3_countAble_21 ⟨Nat.zero_le _, Nat.zero_le _⟩) ?_
      refine W.eq (g2 := F0 m 24 ls (.int (nI (x_pos n t)) :: [.ref (a 0)])) rfl ?_
      have k_3 := x_pos_lt (n := n) (i := t) (by omega) (by omega)
      refine W.callR (W.runV (As := [.int (nI (x_pos n t))]) (rest := []) ⟨hx, hb, hml, hown, hts⟩ (c_X3_isAble l dC dI cs a n f (x_pos n t) hB (by omega)) (cwV 1 hts gX3_countAble_X3_isAble rfl rfl rfl (by decide +kernel) ⟨Nat.le_of_ble_eq_true rfl, Nat.le_of_ble_eq_true rfl⟩) (rd_preV (q := (RX3, TX3, 9)) hP hK 0 rfl rfl) rfl rfl hl.1 rfl (lv_room (Nat.le_of_ble_eq_true rfl)) dX3_countAble_24 ⟨Nat.zero_le _, Nat.zero_le _⟩) ?_
      refine W.eq (g2 := F0 m 27 ls (.int (b2i (x_able n f (x_pos n t))) :: [])) rfl ?_
      refine lv_if_eq (tgt := 33) hx hb dX3_countAble_27 (by decide) (fun c_4 => ?_) (fun c_4 => ?_)
      · have c_4 : x_able n f (x_pos n t) = false := b2i_f c_4
        refine lv_iinc (v := nI (t + 1)) (lv' := [(2, .int (nI (t + 1))), (1, .int (nI v)), (0, .ref (a 0))]) hx hb dX3_countAble_33 hl (k := 0) rfl (nI_succ t).symm (by decide) rfl (fun ls hl => ?_)
        refine lv_goto (tgt := 4) hx hb dX3_countAble_36 (by decide) ?_
        exact ih (t + 1) (v) (by omega) (by rw [hs]; simp [x_cnt, c_4]) ls (lv_sub hl [0, 1, 2] rfl)
      · have c_4 : x_able n f (x_pos n t) = true := b2i_t c_4
        refine lv_iinc (v := nI (v + 1)) (lv' := [(1, .int (nI (v + 1))), (2, .int (nI t)), (0, .ref (a 0))]) hx hb dX3_countAble_30 hl (k := 1) rfl (nI_succ v).symm (by decide) rfl (fun ls hl => ?_)
        refine lv_iinc (v := nI (t + 1)) (lv' := [(2, .int (nI (t + 1))), (1, .int (nI (v + 1))), (0, .ref (a 0))]) hx hb dX3_countAble_33 hl (k := 1) rfl (nI_succ t).symm (by decide) rfl (fun ls hl => ?_)
        refine lv_goto (tgt := 4) hx hb dX3_countAble_36 (by decide) ?_
        exact ih (t + 1) (v + 1) (by omega) (by rw [hs]; simp [x_cnt, c_4]) ls (lv_sub hl [0, 1, 2] rfl)
  exact key (n 9) 0 0 (by omega) rfl ls (lv_sub hl [0, 1, 2] rfl)

set_option maxHeartbeats 4000000 in
set_option maxRecDepth 100000 in
theorem c_X3_rowsBeforeOldestMark (l : Launch) (dC : Nat → ClassId) (dI : Nat → Nat → Nat) (cs : ClassId × ClassId) (a n : Nat → Nat) (f : Nat → Nat → Int32) (hB : x_bd n)  : Met l yX3_rowsBeforeOldestMark wsX3_rowsBeforeOldestMark ({ frames := 2, cells := 0, slots := 0, locals := 42 }) (rdPc (dC, dI) vwCl (wX cs a n f) (tyl cs) [.ref (a 0)]) (QcRead (x_rb n f)) 0 0 (fun _ => False) := by
  refine rd_of (cc := cX3_rowsBeforeOldestMark) (maxL := 2) (ret := (some .int)) (own := RX3) (by decide) rfl rfl (Nat.le_of_ble_eq_true rfl) ?_
  intro p e s m below meth c hx hb hr hml hts hown hlocks hP hK ls hl
  have hl : lv_has ls 2 [(0, .ref (a 0))] := hl
  have hinX3 : ∀ w ∈ wsX30, w ∈ wsX3_rowsBeforeOldestMark := by decide +kernel
  obtain ⟨B1, B2, B3, B4, B5, B6, B7, B8, B9, B10, B11, B12, B13, B14, B15⟩ := id hB
  refine lv_aload_n hx hb dX3_rowsBeforeOldestMark_0 rfl (lv_at hl 0 rfl) ?_
  refine va_get (D := (dC, dI)) (ci := 4) (v := .ref (a 3)) (C := RX3) (T := TX3) (N := 9) hx hb hts hinX3 hown hK hP 0 rfl rfl 2 (by decide) (hts (.fieldLink RX3 34 "RenameRows" "marks" "LRenameRows$Marks;") (by decide +kernel)) (fun _ h9 => h9) rfl dX3_rowsBeforeOldestMark_1 ?_
  refine W.callR (W.runV (As := []) (rest := []) ⟨hx, hb, hml, hown, hts⟩ (c_X0_oldest l dC dI cs a n f hB) (cwV 0 hts gX3_rowsBeforeOldestMark_X0_oldest rfl rfl rfl (by decide +kernel) ⟨Nat.le_of_ble_eq_true rfl, Nat.le_of_ble_eq_true rfl⟩) (rd_preV (q := (RX0, TX0, 3)) hP hK 3 rfl rfl) rfl rfl hl.1 rfl (lv_room (Nat.le_of_ble_eq_true rfl)) dX3_rowsBeforeOldestMark_4 ⟨Nat.zero_le _, Nat.zero_le _⟩) ?_
  refine W.eq (g2 := F0 m 7 ls (.int (x_om n f) :: [])) rfl ?_
  refine lv_istore_n (lv' := [(1, .int (x_om n f)), (0, .ref (a 0))]) hx hb dX3_rowsBeforeOldestMark_7 rfl hl (by decide) rfl (fun ls hl => ?_)
  refine lv_iload_n hx hb dX3_rowsBeforeOldestMark_8 rfl (lv_at hl 0 rfl) ?_
  refine lv_iconst (v := (-1)) hx hb dX3_rowsBeforeOldestMark_9 (by decide) ?_
  refine lv_icmp_ne (tgt := 23) hx hb dX3_rowsBeforeOldestMark_10 (by decide) (fun c_1 => ?_) (fun c_1 => ?_)
  · refine lv_aload_n hx hb dX3_rowsBeforeOldestMark_23 rfl (lv_at hl 1 rfl) ?_
    refine va_get (D := (dC, dI)) (ci := 4) (v := .ref (a 3)) (C := RX3) (T := TX3) (N := 9) hx hb hts hinX3 hown hK hP 0 rfl rfl 2 (by decide) (hts (.fieldLink RX3 34 "RenameRows" "marks" "LRenameRows$Marks;") (by decide +kernel)) (fun _ h9 => h9) rfl dX3_rowsBeforeOldestMark_24 ?_
    refine lv_iload_n hx hb dX3_rowsBeforeOldestMark_27 rfl (lv_at hl 0 rfl) ?_
    refine W.callR (W.runV (As := [.int (x_om n f)]) (rest := []) ⟨hx, hb, hml, hown, hts⟩ (c_X0_rowsBefore l dC dI cs a n f (x_om n f) hB) (cwV 1 hts gX3_rowsBeforeOldestMark_X0_rowsBefore rfl rfl rfl (by decide +kernel) ⟨Nat.le_of_ble_eq_true rfl, Nat.le_of_ble_eq_true rfl⟩) (rd_preV (q := (RX0, TX0, 3)) hP hK 3 rfl rfl) rfl rfl hl.1 rfl (lv_room (Nat.le_of_ble_eq_true rfl)) dX3_rowsBeforeOldestMark_28 ⟨Nat.zero_le _, Nat.zero_le _⟩) ?_
    refine W.eq (g2 := F0 m 31 ls (.int (x_bef f (x_om n f)) :: [])) rfl ?_
    refine lv_aload_n hx hb dX3_rowsBeforeOldestMark_31 rfl (lv_at hl 1 rfl) ?_
    refine va_get (D := (dC, dI)) (ci := 4) (v := .ref (a 2)) (C := RX3) (T := TX3) (N := 9) hx hb hts hinX3 hown hK hP 0 rfl rfl 1 (by decide) (hts (.fieldLink RX3 27 "RenameRows" "ring" "LRenameRows$Ring;") (by decide +kernel)) (fun _ h9 => h9) rfl dX3_rowsBeforeOldestMark_32 ?_
    refine W.callR (W.runV (As := []) (rest := [.int (x_bef f (x_om n f))]) ⟨hx, hb, hml, hown, hts⟩ (c_X2_doneCount l dC dI cs a n f hB) (cwV 0 hts gX3_rowsBeforeOldestMark_X2_doneCount rfl rfl rfl (by decide +kernel) ⟨Nat.le_of_ble_eq_true rfl, Nat.le_of_ble_eq_true rfl⟩) (rd_preV (q := (RX2, TX2, 10)) hP hK 2 rfl rfl) rfl rfl hl.1 rfl (lv_room (Nat.le_of_ble_eq_true rfl)) dX3_rowsBeforeOldestMark_35 ⟨Nat.zero_le _, Nat.zero_le _⟩) ?_
    refine W.eq (g2 := F0 m 38 ls (.int (nI (n 10)) :: [.int (x_bef f (x_om n f))])) rfl ?_
    refine lv_isub hx hb dX3_rowsBeforeOldestMark_38 ?_
    refine tp_eq (show _ = x_rb n f by first | (simp [x_rb, c_1]; done) | (simp [nI_0, x_rb, c_1]; done) | (simp [x_rb, c_1]; omega)) ?_
    exact rd_iret hx hb hr hlocks dX3_rowsBeforeOldestMark_39
  · refine lv_aload_n hx hb dX3_rowsBeforeOldestMark_13 rfl (lv_at hl 1 rfl) ?_
    refine va_get (D := (dC, dI)) (ci := 4) (v := .ref (a 2)) (C := RX3) (T := TX3) (N := 9) hx hb hts hinX3 hown hK hP 0 rfl rfl 1 (by decide) (hts (.fieldLink RX3 27 "RenameRows" "ring" "LRenameRows$Ring;") (by decide +kernel)) (fun _ h9 => h9) rfl dX3_rowsBeforeOldestMark_14 ?_
    refine W.callR (W.runV (As := []) (rest := []) ⟨hx, hb, hml, hown, hts⟩ (c_X2_rowCount l dC dI cs a n f hB) (cwV 0 hts gX3_rowsBeforeOldestMark_X2_rowCount rfl rfl rfl (by decide +kernel) ⟨Nat.le_of_ble_eq_true rfl, Nat.le_of_ble_eq_true rfl⟩) (rd_preV (q := (RX2, TX2, 10)) hP hK 2 rfl rfl) rfl rfl hl.1 rfl (lv_room (Nat.le_of_ble_eq_true rfl)) dX3_rowsBeforeOldestMark_17 ⟨Nat.zero_le _, Nat.zero_le _⟩) ?_
    refine W.eq (g2 := F0 m 20 ls (.int (nI (n 9)) :: [])) rfl ?_
    refine lv_goto (tgt := 39) hx hb dX3_rowsBeforeOldestMark_20 (by decide) ?_
    refine tp_eq (show _ = x_rb n f by first | (simp [x_rb, c_1]; done) | (simp [nI_0, x_rb, c_1]; done) | (simp [x_rb, c_1]; omega)) ?_
    exact rd_iret hx hb hr hlocks dX3_rowsBeforeOldestMark_39
