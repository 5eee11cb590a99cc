set_option maxRecDepth 100000 in
theorem c_X3_finishOldest (l : Launch) (dC : Nat → ClassId) (dI : Nat → Nat → Nat) (cs : ClassId × ClassId) (a n : Nat → Nat) (f : Nat → Nat → Int32) (sz : Nat) (hB : x_bd n) (h1 : 0 < n 9) (hs : x_fs n f) : Met l yX3_finishOldest wsX3_finishOldest ({ frames := 2, cells := 0, slots := 0, locals := 43 }) (wrPc (dC, dI) vwCl (wX cs a n f) (tyl cs) sz [.ref (a 0)]) (wrQ (dC, dI) vwCl (wX cs a (x_fiN n f) (x_fiF n f)) none (va_A (wX cs a n f) sz)) 0 0 (va_A (wX cs a n f) sz) := by
  obtain ⟨B1, B2, B3, B4, B5, B6, B7, B8, B9, B10, B11, B12, B13, B14, B15⟩ := id hB
  rcases hs with h0 | ⟨r, q, e1, e2, e3, e4, e5, e6⟩
  · have e : x_fiN n f = x_dN n ∧ x_fiF n f = f := by simp [x_fiN, x_fiF, h0]
    rw [e.1, e.2]
    exact c_X3_finishOldest_0 l dC dI cs a n f sz h0 hB h1
  · have e : x_fiN n f = x_dN (x_gN n (uf f 5 (upd (f 5) r (f 12 (n 8)))) q) ∧ x_fiF n f = x_gF n (uf f 5 (upd (f 5) r (f 12 (n 8)))) q := by
      simp [x_fiN, x_fiF, x_f5, e1, e3, nI_m1 (show r < 2 ^ 31 by omega), cl32_nI (show r < 2 ^ 31 by omega), cl32_nI (show q < 2 ^ 31 by omega)]
    rw [e.1, e.2]
    exact c_X3_finishOldest_r l dC dI cs a n f sz r q e1 e3 hB h1 e2 e4 e5 e6
set_option maxRecDepth 100000 in
theorem c_X3_takeBackLast (l : Launch) (dC : Nat → ClassId) (dI : Nat → Nat → Nat) (cs : ClassId × ClassId) (a n : Nat → Nat) (f : Nat → Nat → Int32) (sz : Nat) (hB : x_bd n) (h1 : 0 < n 9) (hs : x_ts n f) : Met l yX3_takeBackLast wsX3_takeBackLast ({ frames := 2, cells := 0, slots := 0, locals := 43 }) (wrPc (dC, dI) vwCl (wX cs a n f) (tyl cs) sz [.ref (a 0)]) (wrQ (dC, dI) vwCl (wX cs a (x_tbN n f) (x_tbF n f)) none (va_A (wX cs a n f) sz)) 0 0 (va_A (wX cs a n f) sz) := by
  obtain ⟨B1, B2, B3, B4, B5, B6, B7, B8, B9, B10, B11, B12, B13, B14, B15⟩ := id hB
  rcases hs with h0 | ⟨r, q, e1, e2, e3, e4, e5, e6⟩
  · have e : x_tbN n f = x_lN n ∧ x_tbF n f = f := by simp [x_tbN, x_tbF, h0]
    rw [e.1, e.2]
    exact c_X3_takeBackLast_0 l dC dI cs a n f sz h0 hB h1
  · have e : x_tbN n f = x_lN (x_gN n f q) ∧ x_tbF n f = uf (x_gF n f q) 4 (upd (x_gF n f q 4) r (f 13 (x_lp n))) := by
      simp [x_tbN, x_tbF, e1, e3, nI_m1 (show r < 2 ^ 31 by omega), cl32_nI (show r < 2 ^ 31 by omega), cl32_nI (show q < 2 ^ 31 by omega)]
    rw [e.1, e.2]
    exact c_X3_takeBackLast_r l dC dI cs a n f sz r q e1 e3 hB h1 e2 e4 e5 e6

set_option maxHeartbeats 4000000 in
set_option maxRecDepth 100000 in
theorem c_X3_selected (l : Launch) (dC : Nat → ClassId) (dI : Nat → Nat → Nat) (cs : ClassId × ClassId) (a n : Nat → Nat) (f : Nat → Nat → Int32) (j : Nat) (hB : x_bd n) (h1 : j < 8)  : Met l yX3_selected wsX3_selected ({ frames := 0, cells := 0, slots := 0, locals := 0 }) (rdPc (dC, dI) vwCl (wX cs a n f) (tyl cs) [.ref (a 0), .int (nI j)]) (QcRead (f 6 j)) 0 0 (fun _ => False) := by
  refine rd_of (cc := cX3_selected) (maxL := 2) (ret := (some .int)) (own := RX3) (by decide) rfl rfl (Nat.le_of_ble_eq_true rfl) ?_
  intro p e s m below meth c hx hb hr hml hts hown hlocks hP hK ls hl
  have hl : lv_has ls 2 [(0, .ref (a 0)), (1, .int (nI j))] := hl
  have hinX3 : ∀ w ∈ wsX30, w ∈ wsX3_selected := by decide +kernel
  obtain ⟨B1, B2, B3, B4, B5, B6, B7, B8, B9, B10, B11, B12, B13, B14, B15⟩ := id hB
  refine lv_iload_n hx hb dX3_selected_0 rfl (lv_at hl 1 rfl) ?_
  refine lv_if_lt (tgt := 10) hx hb dX3_selected_1 (by decide) (fun c => absurd c (nI_pos (by omega))) (fun _ => ?_)
  refine lv_iload_n hx hb dX3_selected_4 rfl (lv_at hl 1 rfl) ?_
  refine lv_bipush (v := nI 8) hx hb dX3_selected_5 (by decide) ?_
  refine lv_icmp_lt (tgt := 20) hx hb dX3_selected_7 (by decide) (fun c_2 => ?_) (fun c_2 => absurd ((nI_ltI (by omega) (by omega)).mpr (by omega)) c_2)
  have c_2 : j < 8 := (nI_ltI (by omega) (by omega)).mp c_2
  refine lv_aload_n hx hb dX3_selected_20 rfl (lv_at hl 0 rfl) ?_
  refine va_get (D := (dC, dI)) (ci := 4) (v := .ref (a 6)) (C := RX3) (T := TX3) (N := 9) hx hb hts hinX3 hown hK hP 0 rfl rfl 5 (by decide) (hts (.fieldLink RX3 45 "RenameRows" "wentTo" "[I") (by decide +kernel)) (fun _ h9 => h9) rfl dX3_selected_21 ?_
  refine lv_iload_n hx hb dX3_selected_24 rfl (lv_at hl 1 rfl) ?_
  refine ar_ld (D := (dC, dI)) (n := 8) (f := f 6) hx hb hK hP 6 0 rfl rfl (by omega) (by omega) dX3_selected_25 ?_
  exact rd_iret hx hb hr hlocks dX3_selected_26

set_option maxHeartbeats 4000000 in
set_option maxRecDepth 100000 in
theorem c_X3_name (l : Launch) (dC : Nat → ClassId) (dI : Nat → Nat → Nat) (cs : ClassId × ClassId) (a n : Nat → Nat) (f : Nat → Nat → Int32) (j : Nat) (hB : x_bd n) (h1 : j < n 0)  : Met l yX3_name wsX3_name ({ frames := 1, cells := 0, slots := 0, locals := 21 }) (rdPc (dC, dI) vwCl (wX cs a n f) (tyl cs) [.ref (a 0), .int (nI j)]) (QcRead (f 4 j)) 0 0 (fun _ => False) := by
  refine rd_of (cc := cX3_name) (maxL := 2) (ret := (some .int)) (own := RX3) (by decide) rfl rfl (Nat.le_of_ble_eq_true rfl) ?_
  intro p e s m below meth c hx hb hr hml hts hown hlocks hP hK ls hl
  have hl : lv_has ls 2 [(0, .ref (a 0)), (1, .int (nI j))] := hl
  have hinX3 : ∀ w ∈ wsX30, w ∈ wsX3_name := by decide +kernel
  obtain ⟨B1, B2, B3, B4, B5, B6, B7, B8, B9, B10, B11, B12, B13, B14, B15⟩ := id hB
  refine lv_aload_n hx hb dX3_name_0 rfl (lv_at hl 0 rfl) ?_
  refine lv_iload_n hx hb dX3_name_1 rfl (lv_at hl 1 rfl) ?_
  refine W.callR (W.runV (As := [.int (nI j)]) (rest := []) ⟨hx, hb, hml, hown, hts⟩ (c_X3_isRegister l dC dI cs a n f (nI j) hB) (cwV 1 hts gX3_name_X3_isRegister rfl rfl rfl (by decide +kernel) ⟨Nat.le_of_ble_eq_true rfl, Nat.le_of_ble_eq_true rfl⟩) (rd_preV (q := (RX3, TX3, 9)) hP hK 0 rfl rfl) rfl rfl hl.1 rfl (lv_room (Nat.le_of_ble_eq_true rfl)) dX3_name_2 ⟨Nat.zero_le _, Nat.zero_le _⟩) ?_
  refine W.eq (g2 := F0 m 5 ls (.int (b2i (inB (nI j) (n 0))) :: [])) rfl ?_
  refine lv_if_ne (tgt := 18) hx hb dX3_name_5 (by decide) (fun c_1 => ?_) (fun c_1 => absurd (b2i_f c_1) (by rw [inB_nI (by omega) (by omega)]; simp; omega))
  have c_1 : inB (nI j) (n 0) = true := b2i_t c_1
  refine lv_aload_n hx hb dX3_name_18 rfl (lv_at hl 0 rfl) ?_
  refine va_get (D := (dC, dI)) (ci := 4) (v := .ref (a 4)) (C := RX3) (T := TX3) (N := 9) hx hb hts hinX3 hown hK hP 0 rfl rfl 3 (by decide) (hts (.fieldLink RX3 38 "RenameRows" "nameNow" "[I") (by decide +kernel)) (fun _ h9 => h9) rfl dX3_name_19 ?_
  refine lv_iload_n hx hb dX3_name_22 rfl (lv_at hl 1 rfl) ?_
  refine ar_ld (D := (dC, dI)) (n := n 0) (f := f 4) hx hb hK hP 4 0 rfl rfl (by omega) (by omega) dX3_name_23 ?_
  exact rd_iret hx hb hr hlocks dX3_name_24

set_option maxHeartbeats 4000000 in
set_option maxRecDepth 100000 in
theorem c_X3_sure (l : Launch) (dC : Nat → ClassId) (dI : Nat → Nat → Nat) (cs : ClassId × ClassId) (a n : Nat → Nat) (f : Nat → Nat → Int32) (j : Nat) (hB : x_bd n) (h1 : j < n 0)  : Met l yX3_sure wsX3_sure ({ frames := 1, cells := 0, slots := 0, locals := 21 }) (rdPc (dC, dI) vwCl (wX cs a n f) (tyl cs) [.ref (a 0), .int (nI j)]) (QcRead (f 5 j)) 0 0 (fun _ => False) := by
  refine rd_of (cc := cX3_sure) (maxL := 2) (ret := (some .int)) (own := RX3) (by decide) rfl rfl (Nat.le_of_ble_eq_true rfl) ?_
  intro p e s m below meth c hx hb hr hml hts hown hlocks hP hK ls hl
  have hl : lv_has ls 2 [(0, .ref (a 0)), (1, .int (nI j))] := hl
  have hinX3 : ∀ w ∈ wsX30, w ∈ wsX3_sure := by decide +kernel
  obtain ⟨B1, B2, B3, B4, B5, B6, B7, B8, B9, B10, B11, B12, B13, B14, B15⟩ := id hB
  refine lv_aload_n hx hb dX3_sure_0 rfl (lv_at hl 0 rfl) ?_
  refine lv_iload_n hx hb dX3_sure_1 rfl (lv_at hl 1 rfl) ?_
  refine W.callR (W.runV (As := [.int (nI j)]) (rest := []) ⟨hx, hb, hml, hown, hts⟩ (c_X3_isRegister l dC dI cs a n f (nI j) hB) (cwV 1 hts gX3_sure_X3_isRegister rfl rfl rfl (by decide +kernel) ⟨Nat.le_of_ble_eq_true rfl, Nat.le_of_ble_eq_true rfl⟩) (rd_preV (q := (RX3, TX3, 9)) hP hK 0 rfl rfl) rfl rfl hl.1 rfl (lv_room (Nat.le_of_ble_eq_true rfl)) dX3_sure_2 ⟨Nat.zero_le _, Nat.zero_le _⟩) ?_
  refine W.eq (g2 := F0 m 5 ls (.int (b2i (inB (nI j) (n 0))) :: [])) rfl ?_
  refine lv_if_ne (tgt := 18) hx hb dX3_sure_5 (by decide) (fun c_1 => ?_) (fun c_1 => absurd (b2i_f c_1) (by rw [inB_nI (by omega) (by omega)]; simp; omega))
  have c_1 : inB (nI j) (n 0) = true := b2i_t c_1
  refine lv_aload_n hx hb dX3_sure_18 rfl (lv_at hl 0 rfl) ?_
  refine va_get (D := (dC, dI)) (ci := 4) (v := .ref (a 5)) (C := RX3) (T := TX3) (N := 9) hx hb hts hinX3 hown hK hP 0 rfl rfl 4 (by decide) (hts (.fieldLink RX3 42 "RenameRows" "nameSure" "[I") (by decide +kernel)) (fun _ h9 => h9) rfl dX3_sure_19 ?_
  refine lv_iload_n hx hb dX3_sure_22 rfl (lv_at hl 1 rfl) ?_
  refine ar_ld (D := (dC, dI)) (n := n 0) (f := f 5) hx hb hK hP 5 0 rfl rfl (by omega) (by omega) dX3_sure_23 ?_
  exact rd_iret hx hb hr hlocks dX3_sure_24

set_option maxHeartbeats 4000000 in
set_option maxRecDepth 100000 in
theorem c_X3_shares (l : Launch) (dC : Nat → ClassId) (dI : Nat → Nat → Nat) (cs : ClassId × ClassId) (a n : Nat → Nat) (f : Nat → Nat → Int32) (j : Nat) (hB : x_bd n) (h1 : j < n 1)  : Met l yX3_shares wsX3_shares ({ frames := 2, cells := 0, slots := 0, locals := 42 }) (rdPc (dC, dI) vwCl (wX cs a n f) (tyl cs) [.ref (a 0), .int (nI j)]) (QcRead (f 7 j)) 0 0 (fun _ => False) := by
  refine rd_of (cc := cX3_shares) (maxL := 2) (ret := (some .int)) (own := RX3) (by decide) rfl rfl (Nat.le_of_ble_eq_true rfl) ?_
  intro p e s m below meth c hx hb hr hml hts hown hlocks hP hK ls hl
  have hl : lv_has ls 2 [(0, .ref (a 0)), (1, .int (nI j))] := hl
  have hinX3 : ∀ w ∈ wsX30, w ∈ wsX3_shares := by decide +kernel
  obtain ⟨B1, B2, B3, B4, B5, B6, B7, B8, B9, B10, B11, B12, B13, B14, B15⟩ := id hB
  refine lv_aload_n hx hb dX3_shares_0 rfl (lv_at hl 0 rfl) ?_
  refine va_get (D := (dC, dI)) (ci := 4) (v := .ref (a 1)) (C := RX3) (T := TX3) (N := 9) hx hb hts hinX3 hown hK hP 0 rfl rfl 0 (by decide) (hts (.fieldLink RX3 18 "RenameRows" "names" "LRenameRows$Names;") (by decide +kernel)) (fun _ h9 => h9) rfl dX3_shares_1 ?_
  refine lv_iload_n hx hb dX3_shares_4 rfl (lv_at hl 1 rfl) ?_
  refine W.callR (W.runV (As := [.int (nI j)]) (rest := []) ⟨hx, hb, hml, hown, hts⟩ (c_X1_isName l dC dI cs a n f (nI j) hB) (cwV 1 hts gX3_shares_X1_isName rfl rfl rfl (by decide +kernel) ⟨Nat.le_of_ble_eq_true rfl, Nat.le_of_ble_eq_true rfl⟩) (rd_preV (q := (RX1, TX1, 5)) hP hK 1 rfl rfl) rfl rfl hl.1 rfl (lv_room (Nat.le_of_ble_eq_true rfl)) dX3_shares_5 ⟨Nat.zero_le _, Nat.zero_le _⟩) ?_
  refine W.eq (g2 := F0 m 8 ls (.int (b2i (inB (nI j) (n 1))) :: [])) rfl ?_
  refine lv_if_ne (tgt := 21) hx hb dX3_shares_8 (by decide) (fun c_1 => ?_) (fun c_1 => absurd (b2i_f c_1) (by rw [inB_nI (by omega) (by omega)]; simp; omega))
  have c_1 : inB (nI j) (n 1) = true := b2i_t c_1
  refine lv_aload_n hx hb dX3_shares_21 rfl (lv_at hl 0 rfl) ?_
  refine va_get (D := (dC, dI)) (ci := 4) (v := .ref (a 1)) (C := RX3) (T := TX3) (N := 9) hx hb hts hinX3 hown hK hP 0 rfl rfl 0 (by decide) (hts (.fieldLink RX3 18 "RenameRows" "names" "LRenameRows$Names;") (by decide +kernel)) (fun _ h9 => h9) rfl dX3_shares_22 ?_
  refine lv_iload_n hx hb dX3_shares_25 rfl (lv_at hl 1 rfl) ?_
  refine W.callR (W.runV (As := [.int (nI j)]) (rest := []) ⟨hx, hb, hml, hown, hts⟩ (c_X1_sharesOf l dC dI cs a n f (nI j) hB) (cwV 1 hts gX3_shares_X1_sharesOf rfl rfl rfl (by decide +kernel) ⟨Nat.le_of_ble_eq_true rfl, Nat.le_of_ble_eq_true rfl⟩) (rd_preV (q := (RX1, TX1, 5)) hP hK 1 rfl rfl) rfl rfl hl.1 rfl (lv_room (Nat.le_of_ble_eq_true rfl)) dX3_shares_26 ⟨Nat.zero_le _, Nat.zero_le _⟩) ?_
  refine W.eq (g2 := F0 m 29 ls (.int (x_sh n f (nI j)) :: [])) rfl ?_
  refine tp_eq (show _ = (f 7 j) by rw [x_sh, inB_nI (by omega) (by omega), cl32_nI (by omega)]; simp; omega) ?_
  exact rd_iret hx hb hr hlocks dX3_shares_29

set_option maxHeartbeats 4000000 in
set_option maxRecDepth 100000 in
theorem c_X3_queue (l : Launch) (dC : Nat → ClassId) (dI : Nat → Nat → Nat) (cs : ClassId × ClassId) (a n : Nat → Nat) (f : Nat → Nat → Int32) (j : Nat) (hB : x_bd n) (h1 : j < n 7)  : Met l yX3_queue wsX3_queue ({ frames := 2, cells := 0, slots := 0, locals := 43 }) (rdPc (dC, dI) vwCl (wX cs a n f) (tyl cs) [.ref (a 0), .int (nI j)]) (QcRead (f 9 (x_slot n j))) 0 0 (fun _ => False) := by
  refine rd_of (cc := cX3_queue) (maxL := 2) (ret := (some .int)) (own := RX3) (by decide) rfl rfl (Nat.le_of_ble_eq_true rfl) ?_
  intro p e s m below meth c hx hb hr hml hts hown hlocks hP hK ls hl
  have hl : lv_has ls 2 [(0, .ref (a 0)), (1, .int (nI j))] := hl
  have hinX3 : ∀ w ∈ wsX30, w ∈ wsX3_queue := by decide +kernel
  obtain ⟨B1, B2, B3, B4, B5, B6, B7, B8, B9, B10, B11, B12, B13, B14, B15⟩ := id hB
  refine lv_iload_n hx hb dX3_queue_0 rfl (lv_at hl 1 rfl) ?_
  refine lv_if_lt (tgt := 15) hx hb dX3_queue_1 (by decide) (fun c => absurd c (nI_pos (by omega))) (fun _ => ?_)
  refine lv_iload_n hx hb dX3_queue_4 rfl (lv_at hl 1 rfl) ?_
  refine lv_aload_n hx hb dX3_queue_5 rfl (lv_at hl 0 rfl) ?_
  refine va_get (D := (dC, dI)) (ci := 4) (v := .ref (a 1)) (C := RX3) (T := TX3) (N := 9) hx hb hts hinX3 hown hK hP 0 rfl rfl 0 (by decide) (hts (.fieldLink RX3 18 "RenameRows" "names" "LRenameRows$Names;") (by decide +kernel)) (fun _ h9 => h9) rfl dX3_queue_6 ?_
  refine W.callR (W.runV (As := []) (rest := [.int (nI j)]) ⟨hx, hb, hml, hown, hts⟩ (c_X1_freeCount l dC dI cs a n f hB) (cwV 0 hts gX3_queue_X1_freeCount rfl rfl rfl (by decide +kernel) ⟨Nat.le_of_ble_eq_true rfl, Nat.le_of_ble_eq_true rfl⟩) (rd_preV (q := (RX1, TX1, 5)) hP hK 1 rfl rfl) rfl rfl hl.1 rfl (lv_room (Nat.le_of_ble_eq_true rfl)) dX3_queue_9 ⟨Nat.zero_le _, Nat.zero_le _⟩) ?_
  refine W.eq (g2 := F0 m 12 ls (.int (nI (n 7)) :: [.int (nI j)])) rfl ?_
  refine lv_icmp_lt (tgt := 25) hx hb dX3_queue_12 (by decide) (fun c_2 => ?_) (fun c_2 => absurd ((nI_ltI (by omega) (by omega)).mpr (by omega)) c_2)
  have c_2 : j < (n 7) := (nI_ltI (by omega) (by omega)).mp c_2
  refine lv_aload_n hx hb dX3_queue_25 rfl (lv_at hl 0 rfl) ?_
  refine va_get (D := (dC, dI)) (ci := 4) (v := .ref (a 1)) (C := RX3) (T := TX3) (N := 9) hx hb hts hinX3 hown hK hP 0 rfl rfl 0 (by decide) (hts (.fieldLink RX3 18 "RenameRows" "names" "LRenameRows$Names;") (by decide +kernel)) (fun _ h9 => h9) rfl dX3_queue_26 ?_
  refine lv_iload_n hx hb dX3_queue_29 rfl (lv_at hl 1 rfl) ?_
  refine W.callR (W.runV (As := [.int (nI j)]) (rest := []) ⟨hx, hb, hml, hown, hts⟩ (c_X1_freeAt l dC dI cs a n f (nI j) hB) (cwV 1 hts gX3_queue_X1_freeAt rfl rfl rfl (by decide +kernel) ⟨Nat.le_of_ble_eq_true rfl, Nat.le_of_ble_eq_true rfl⟩) (rd_preV (q := (RX1, TX1, 5)) hP hK 1 rfl rfl) rfl rfl hl.1 rfl (lv_room (Nat.le_of_ble_eq_true rfl)) dX3_queue_30 ⟨Nat.zero_le _, Nat.zero_le _⟩) ?_
  refine W.eq (g2 := F0 m 33 ls (.int (x_fa n f (nI j)) :: [])) rfl ?_
  refine tp_eq (show _ = (f 9 (x_slot n j)) by rw [x_fa, inB_nI (by omega) (by omega), cl32_nI (by omega)]; simp; omega) ?_
  exact rd_iret hx hb hr hlocks dX3_queue_33

set_option maxHeartbeats 4000000 in
set_option maxRecDepth 100000 in
theorem c_X3_row (l : Launch) (dC : Nat → ClassId) (dI : Nat → Nat → Nat) (cs : ClassId × ClassId) (a n : Nat → Nat) (f : Nat → Nat → Int32) (j : Nat) (w : Nat) (hB : x_bd n) (h1 : j < n 2) (h2 : w < 7) (h3 : x_holds n (nI j) = true)  : Met l yX3_row wsX3_row ({ frames := 2, cells := 0, slots := 0, locals := 42 }) (rdPc (dC, dI) vwCl (wX cs a n f) (tyl cs) [.ref (a 0), .int (nI j), .int (nI w)]) (QcRead (f (10 + w) j)) 0 0 (fun _ => False) := by
  refine rd_of (cc := cX3_row) (maxL := 3) (ret := (some .int)) (own := RX3) (by decide) rfl rfl (Nat.le_of_ble_eq_true rfl) ?_
  intro p e s m below meth c hx hb hr hml hts hown hlocks hP hK ls hl
  have hl : lv_has ls 3 [(0, .ref (a 0)), (1, .int (nI j)), (2, .int (nI w))] := hl
  have hinX3 : ∀ w ∈ wsX30, w ∈ wsX3_row := by decide +kernel
  obtain ⟨B1, B2, B3, B4, B5, B6, B7, B8, B9, B10, B11, B12, B13, B14, B15⟩ := id hB
  refine lv_aload_n hx hb dX3_row_0 rfl (lv_at hl 0 rfl) ?_
  refine va_get (D := (dC, dI)) (ci := 4) (v := .ref (a 2)) (C := RX3) (T := TX3) (N := 9) hx hb hts hinX3 hown hK hP 0 rfl rfl 1 (by decide) (hts (.fieldLink RX3 27 "RenameRows" "ring" "LRenameRows$Ring;") (by decide +kernel)) (fun _ h9 => h9) rfl dX3_row_1 ?_
  refine lv_iload_n hx hb dX3_row_4 rfl (lv_at hl 1 rfl) ?_
  refine W.callR (W.runV (As := [.int (nI j)]) (rest := []) ⟨hx, hb, hml, hown, hts⟩ (c_X2_isPlace l dC dI cs a n f (nI j) hB) (cwV 1 hts gX3_row_X2_isPlace rfl rfl rfl (by decide +kernel) ⟨Nat.le_of_ble_eq_true rfl, Nat.le_of_ble_eq_true rfl⟩) (rd_preV (q := (RX2, TX2, 10)) hP hK 2 rfl rfl) rfl rfl hl.1 rfl (lv_room (Nat.le_of_ble_eq_true rfl)) dX3_row_5 ⟨Nat.zero_le _, Nat.zero_le _⟩) ?_
  refine W.eq (g2 := F0 m 8 ls (.int (b2i (inB (nI j) (n 2))) :: [])) rfl ?_
  refine lv_if_ne (tgt := 21) hx hb dX3_row_8 (by decide) (fun c_1 => ?_) (fun c_1 => absurd (b2i_f c_1) (by rw [inB_nI (by omega) (by omega)]; simp; omega))
  have c_1 : inB (nI j) (n 2) = true := b2i_t c_1
  refine lv_aload_n hx hb dX3_row_21 rfl (lv_at hl 0 rfl) ?_
  refine va_get (D := (dC, dI)) (ci := 4) (v := .ref (a 2)) (C := RX3) (T := TX3) (N := 9) hx hb hts hinX3 hown hK hP 0 rfl rfl 1 (by decide) (hts (.fieldLink RX3 27 "RenameRows" "ring" "LRenameRows$Ring;") (by decide +kernel)) (fun _ h9 => h9) rfl dX3_row_22 ?_
  refine lv_iload_n hx hb dX3_row_25 rfl (lv_at hl 1 rfl) ?_
  refine W.callR (W.runV (As := [.int (nI j)]) (rest := []) ⟨hx, hb, hml, hown, hts⟩ (c_X2_holdsRow l dC dI cs a n f (nI j) hB) (cwV 1 hts gX3_row_X2_holdsRow rfl rfl rfl (by decide +kernel) ⟨Nat.le_of_ble_eq_true rfl, Nat.le_of_ble_eq_true rfl⟩) (rd_preV (q := (RX2, TX2, 10)) hP hK 2 rfl rfl) rfl rfl hl.1 rfl (lv_room (Nat.le_of_ble_eq_true rfl)) dX3_row_26 ⟨Nat.zero_le _, Nat.zero_le _⟩) ?_
  refine W.eq (g2 := F0 m 29 ls (.int (b2i (x_holds n (nI j))) :: [])) rfl ?_
  refine lv_if_ne (tgt := 42) hx hb dX3_row_29 (by decide) (fun c_2 => ?_) (fun c_2 => absurd (b2i_f c_2) (by rw [h3]; decide))
  have c_2 : x_holds n (nI j) = true := b2i_t c_2
  refine lv_iload_n hx hb dX3_row_42 rfl (lv_at hl 2 rfl) ?_
  rcases (show w = 0 ∨ w = 1 ∨ w = 2 ∨ w = 3 ∨ w = 4 ∨ w = 5 ∨ w = 6 by omega) with rfl | rfl | rfl | rfl | rfl | rfl | rfl
  · refine lv_tableIn (tgt := 84) (off := 41) hx hb dX3_row_43 (by decide) (by decide) (by decide) (by decide) ?_
    refine lv_aload_n hx hb dX3_row_84 rfl (lv_at hl 0 rfl) ?_
    refine va_get (D := (dC, dI)) (ci := 4) (v := .ref (a 2)) (C := RX3) (T := TX3) (N := 9) hx hb hts hinX3 hown hK hP 0 rfl rfl 1 (by decide) (hts (.fieldLink RX3 27 "RenameRows" "ring" "LRenameRows$Ring;") (by decide +kernel)) (fun _ h9 => h9) rfl dX3_row_85 ?_
    refine lv_iload_n hx hb dX3_row_88 rfl (lv_at hl 1 rfl) ?_
    refine W.callR (W.runV (As := [.int (nI j)]) (rest := []) ⟨hx, hb, hml, hown, hts⟩ (c_X2_readAAt l dC dI cs a n f (nI j) hB) (cwV 1 hts gX3_row_X2_readAAt rfl rfl rfl (by decide +kernel) ⟨Nat.le_of_ble_eq_true rfl, Nat.le_of_ble_eq_true rfl⟩) (rd_preV (q := (RX2, TX2, 10)) hP hK 2 rfl rfl) rfl rfl hl.1 rfl (lv_room (Nat.le_of_ble_eq_true rfl)) dX3_row_89 ⟨Nat.zero_le _, Nat.zero_le _⟩) ?_
    refine W.eq (g2 := F0 m 92 ls (.int (x_at 10 n f (nI j)) :: [])) rfl ?_
    refine tp_eq (x_at_nI (by omega) (by omega)) ?_
    refine W.eq (g2 := F0 m 92 ls (.int (f 10 j) :: [])) rfl ?_
    refine tp_eq (show _ = (f (10 + 0) j) by rfl) ?_
    exact rd_iret hx hb hr hlocks dX3_row_92
  · refine lv_tableIn (tgt := 93) (off := 50) hx hb dX3_row_43 (by decide) (by decide) (by decide) (by decide) ?_
    refine lv_aload_n hx hb dX3_row_93 rfl (lv_at hl 0 rfl) ?_
    refine va_get (D := (dC, dI)) (ci := 4) (v := .ref (a 2)) (C := RX3) (T := TX3) (N := 9) hx hb hts hinX3 hown hK hP 0 rfl rfl 1 (by decide) (hts (.fieldLink RX3 27 "RenameRows" "ring" "LRenameRows$Ring;") (by decide +kernel)) (fun _ h9 => h9) rfl dX3_row_94 ?_
    refine lv_iload_n hx hb dX3_row_97 rfl (lv_at hl 1 rfl) ?_
    refine W.callR (W.runV (As := [.int (nI j)]) (rest := []) ⟨hx, hb, hml, hown, hts⟩ (c_X2_readBAt l dC dI cs a n f (nI j) hB) (cwV 1 hts gX3_row_X2_readBAt rfl rfl rfl (by decide +kernel) ⟨Nat.le_of_ble_eq_true rfl, Nat.le_of_ble_eq_true rfl⟩) (rd_preV (q := (RX2, TX2, 10)) hP hK 2 rfl rfl) rfl rfl hl.1 rfl (lv_room (Nat.le_of_ble_eq_true rfl)) dX3_row_98 ⟨Nat.zero_le _, Nat.zero_le _⟩) ?_
    refine W.eq (g2 := F0 m 101 ls (.int (x_at 11 n f (nI j)) :: [])) rfl ?_
    refine tp_eq (x_at_nI (by omega) (by omega)) ?_
    refine W.eq (g2 := F0 m 101 ls (.int (f 11 j) :: [])) rfl ?_
    refine tp_eq (show _ = (f (10 + 1) j) by rfl) ?_
    exact rd_iret hx hb hr hlocks dX3_row_101
  · refine lv_tableIn (tgt := 102) (off := 59) hx hb dX3_row_43 (by decide) (by decide) (by decide) (by decide) ?_
    refine lv_aload_n hx hb dX3_row_102 rfl (lv_at hl 0 rfl) ?_
    refine va_get (D := (dC, dI)) (ci := 4) (v := .ref (a 2)) (C := RX3) (T := TX3) (N := 9) hx hb hts hinX3 hown hK hP 0 rfl rfl 1 (by decide) (hts (.fieldLink RX3 27 "RenameRows" "ring" "LRenameRows$Ring;") (by decide +kernel)) (fun _ h9 => h9) rfl dX3_row_103 ?_
    refine lv_iload_n hx hb dX3_row_106 rfl (lv_at hl 1 rfl) ?_
    refine W.callR (W.runV (As := [.int (nI j)]) (rest := []) ⟨hx, hb, hml, hown, hts⟩ (c_X2_givenAt l dC dI cs a n f (nI j) hB) (cwV 1 hts gX3_row_X2_givenAt rfl rfl rfl (by decide +kernel) ⟨Nat.le_of_ble_eq_true rfl, Nat.le_of_ble_eq_true rfl⟩) (rd_preV (q := (RX2, TX2, 10)) hP hK 2 rfl rfl) rfl rfl hl.1 rfl (lv_room (Nat.le_of_ble_eq_true rfl)) dX3_row_107 ⟨Nat.zero_le _, Nat.zero_le _⟩) ?_
    refine W.eq (g2 := F0 m 110 ls (.int (x_at 12 n f (nI j)) :: [])) rfl ?_
    refine tp_eq (x_at_nI (by omega) (by omega)) ?_
    refine W.eq (g2 := F0 m 110 ls (.int (f 12 j) :: [])) rfl ?_
    refine tp_eq (show _ = (f (10 + 2) j) by rfl) ?_
    exact rd_iret hx hb hr hlocks dX3_row_110
  · refine lv_tableIn (tgt := 111) (off := 68) hx hb dX3_row_43 (by decide) (by decide) (by decide) (by decide) ?_
    refine lv_aload_n hx hb dX3_row_111 rfl (lv_at hl 0 rfl) ?_
    refine va_get (D := (dC, dI)) (ci := 4) (v := .ref (a 2)) (C := RX3) (T := TX3) (N := 9) hx hb hts hinX3 hown hK hP 0 rfl rfl 1 (by decide) (hts (.fieldLink RX3 27 "RenameRows" "ring" "LRenameRows$Ring;") (by decide +kernel)) (fun _ h9 => h9) rfl dX3_row_112 ?_
    refine lv_iload_n hx hb dX3_row_115 rfl (lv_at hl 1 rfl) ?_
    refine W.callR (W.runV (As := [.int (nI j)]) (rest := []) ⟨hx, hb, hml, hown, hts⟩ (c_X2_knownAt l dC dI cs a n f (nI j) hB) (cwV 1 hts gX3_row_X2_knownAt rfl rfl rfl (by decide +kernel) ⟨Nat.le_of_ble_eq_true rfl, Nat.le_of_ble_eq_true rfl⟩) (rd_preV (q := (RX2, TX2, 10)) hP hK 2 rfl rfl) rfl rfl hl.1 rfl (lv_room (Nat.le_of_ble_eq_true rfl)) dX3_row_116 ⟨Nat.zero_le _, Nat.zero_le _⟩) ?_
    refine W.eq (g2 := F0 m 119 ls (.int (x_at 13 n f (nI j)) :: [])) rfl ?_
    refine tp_eq (x_at_nI (by omega) (by omega)) ?_
    refine W.eq (g2 := F0 m 119 ls (.int (f 13 j) :: [])) rfl ?_
    refine tp_eq (show _ = (f (10 + 3) j) by rfl) ?_
    exact rd_iret hx hb hr hlocks dX3_row_119
  · refine lv_tableIn (tgt := 120) (off := 77) hx hb dX3_row_43 (by decide) (by decide) (by decide) (by decide) ?_
    refine lv_aload_n hx hb dX3_row_120 rfl (lv_at hl 0 rfl) ?_
    refine va_get (D := (dC, dI)) (ci := 4) (v := .ref (a 2)) (C := RX3) (T := TX3) (N := 9) hx hb hts hinX3 hown hK hP 0 rfl rfl 1 (by decide) (hts (.fieldLink RX3 27 "RenameRows" "ring" "LRenameRows$Ring;") (by decide +kernel)) (fun _ h9 => h9) rfl dX3_row_121 ?_
    refine lv_iload_n hx hb dX3_row_124 rfl (lv_at hl 1 rfl) ?_
    refine W.callR (W.runV (As := [.int (nI j)]) (rest := []) ⟨hx, hb, hml, hown, hts⟩ (c_X2_registerAt l dC dI cs a n f (nI j) hB) (cwV 1 hts gX3_row_X2_registerAt rfl rfl rfl (by decide +kernel) ⟨Nat.le_of_ble_eq_true rfl, Nat.le_of_ble_eq_true rfl⟩) (rd_preV (q := (RX2, TX2, 10)) hP hK 2 rfl rfl) rfl rfl hl.1 rfl (lv_room (Nat.le_of_ble_eq_true rfl)) dX3_row_125 ⟨Nat.zero_le _, Nat.zero_le _⟩) ?_
    refine W.eq (g2 := F0 m 128 ls (.int (x_at 14 n f (nI j)) :: [])) rfl ?_
    refine tp_eq (x_at_nI (by omega) (by omega)) ?_
    refine W.eq (g2 := F0 m 128 ls (.int (f 14 j) :: [])) rfl ?_
    refine tp_eq (show _ = (f (10 + 4) j) by rfl) ?_
    exact rd_iret hx hb hr hlocks dX3_row_128
  · refine lv_tableIn (tgt := 129) (off := 86) hx hb dX3_row_43 (by decide) (by decide) (by decide) (by decide) ?_
    refine lv_aload_n hx hb dX3_row_129 rfl (lv_at hl 0 rfl) ?_
    refine va_get (D := (dC, dI)) (ci := 4) (v := .ref (a 2)) (C := RX3) (T := TX3) (N := 9) hx hb hts hinX3 hown hK hP 0 rfl rfl 1 (by decide) (hts (.fieldLink RX3 27 "RenameRows" "ring" "LRenameRows$Ring;") (by decide +kernel)) (fun _ h9 => h9) rfl dX3_row_130 ?_
    refine lv_iload_n hx hb dX3_row_133 rfl (lv_at hl 1 rfl) ?_
    refine W.callR (W.runV (As := [.int (nI j)]) (rest := []) ⟨hx, hb, hml, hown, hts⟩ (c_X2_portAt l dC dI cs a n f (nI j) hB) (cwV 1 hts gX3_row_X2_portAt rfl rfl rfl (by decide +kernel) ⟨Nat.le_of_ble_eq_true rfl, Nat.le_of_ble_eq_true rfl⟩) (rd_preV (q := (RX2, TX2, 10)) hP hK 2 rfl rfl) rfl rfl hl.1 rfl (lv_room (Nat.le_of_ble_eq_true rfl)) dX3_row_134 ⟨Nat.zero_le _, Nat.zero_le _⟩) ?_
    refine W.eq (g2 := F0 m 137 ls (.int (x_at 15 n f (nI j)) :: [])) rfl ?_
    refine tp_eq (x_at_nI (by omega) (by omega)) ?_
    refine W.eq (g2 := F0 m 137 ls (.int (f 15 j) :: [])) rfl ?_
    refine tp_eq (show _ = (f (10 + 5) j) by rfl) ?_
    exact rd_iret hx hb hr hlocks dX3_row_137
  · refine lv_tableIn (tgt := 138) (off := 95) hx hb dX3_row_43 (by decide) (by decide) (by decide) (by decide) ?_
    refine lv_aload_n hx hb dX3_row_138 rfl (lv_at hl 0 rfl) ?_
    refine va_get (D := (dC, dI)) (ci := 4) (v := .ref (a 2)) (C := RX3) (T := TX3) (N := 9) hx hb hts hinX3 hown hK hP 0 rfl rfl 1 (by decide) (hts (.fieldLink RX3 27 "RenameRows" "ring" "LRenameRows$Ring;") (by decide +kernel)) (fun _ h9 => h9) rfl dX3_row_139 ?_
    refine lv_iload_n hx hb dX3_row_142 rfl (lv_at hl 1 rfl) ?_
    refine W.callR (W.runV (As := [.int (nI j)]) (rest := []) ⟨hx, hb, hml, hown, hts⟩ (c_X2_stateAt l dC dI cs a n f (nI j) hB) (cwV 1 hts gX3_row_X2_stateAt rfl rfl rfl (by decide +kernel) ⟨Nat.le_of_ble_eq_true rfl, Nat.le_of_ble_eq_true rfl⟩) (rd_preV (q := (RX2, TX2, 10)) hP hK 2 rfl rfl) rfl rfl hl.1 rfl (lv_room (Nat.le_of_ble_eq_true rfl)) dX3_row_143 ⟨Nat.zero_le _, Nat.zero_le _⟩) ?_
    refine W.eq (g2 := F0 m 146 ls (.int (x_at 16 n f (nI j)) :: [])) rfl ?_
    refine tp_eq (x_at_nI (by omega) (by omega)) ?_
    refine W.eq (g2 := F0 m 146 ls (.int (f 16 j) :: [])) rfl ?_
    refine tp_eq (show _ = (f (10 + 6) j) by rfl) ?_
    exact rd_iret hx hb hr hlocks dX3_row_146
