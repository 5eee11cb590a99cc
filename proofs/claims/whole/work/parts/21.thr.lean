theorem nl32 {x y : Int32} (h : x ≤ y) : ¬ y < x := by rw [Int32.lt_iff_toInt_lt]; rw [Int32.le_iff_toInt_le] at h; omega

set_option maxHeartbeats 4000000 in
set_option maxRecDepth 100000 in
theorem t_X3_dispatch_A (l : Launch) (hlt : l.stackTraces = false) (dC : Nat → ClassId) (dI : Nat → Nat → Nat) (cs : ClassId × ClassId) (a n : Nat → Nat) (f : Nat → Nat → Int32) (da : Int32) (db : Int32) (dt : Int32) (hbad : ((decide (da = -1) || inB da (n 0)) && ((decide (db = -1) || inB db (n 0)) && (decide (dt = -1) || inB dt (n 0)))) = false) (hB : x_bd n)  : vx_Met l yX3_dispatch wsX3_dispatch ({ frames := 7, cells := 1, slots := 6, locals := 95 }) (thPc (dC, dI) vwCl (wX cs a n f) (tyl cs) [.ref (a 0), .int da, .int db, .int dt]) noQ (thX eA) 1 6 (fun _ => False) := by
  refine th_of (cc := cX3_dispatch) (maxL := 7) (ret := (some .int)) (own := RX3) (by decide) rfl rfl (Nat.le_of_ble_eq_true rfl) ?_
  intro p e s m below meth c hx hb hr hml hts hown hlocks hP hK hTH hno ls hl
  have hl : lv_has ls 7 [(0, .ref (a 0)), (1, .int da), (2, .int db), (3, .int dt)] := hl
  obtain ⟨B1, B2, B3, B4, B5, B6, B7, B8, B9, B10, B11, B12, B13, B14, B15⟩ := id hB
  refine lv_aload_n hx hb dX3_dispatch_0 rfl (lv_at hl 0 rfl) ?_
  refine lv_iload_n hx hb dX3_dispatch_1 rfl (lv_at hl 1 rfl) ?_
  refine W.callR (W.runV (As := [.int da]) (rest := []) ⟨hx, hb, hml, hown, hts⟩ (c_X3_isRegisterOrNone l dC dI cs a n f da hB) (cwV 1 hts gX3_dispatch_X3_isRegisterOrNone rfl rfl rfl (by decide +kernel) ⟨Nat.le_of_ble_eq_true rfl, Nat.le_of_ble_eq_true rfl⟩) (rd_preV (q := (RX3, TX3, 9)) hP hK 0 rfl rfl) rfl rfl hl.1 rfl (lv_room (Nat.le_of_ble_eq_true rfl)) dX3_dispatch_2 ⟨Nat.zero_le _, Nat.zero_le _⟩) ?_
  refine W.eq (g2 := F0 m 5 ls (.int (b2i (decide (da = -1) || inB da (n 0))) :: [])) rfl ?_
  refine lv_if_eq (tgt := 24) hx hb dX3_dispatch_5 (by decide) (fun c_1 => ?_) (fun c_1 => ?_)
  · have c_1 : (decide (da = -1) || inB da (n 0)) = false := b2i_f c_1
    exact th_go hlt hx hb hown hlocks (by rw [hml]; exact hl.1) hno hTH.1 thA_m thA_f (hTH.2.2.2.1 (54, "no such register") (by decide)) hTH.2.2.2.2.1 hTH.2.2.2.2.2 dX3_dispatch_24 dX3_dispatch_27 dX3_dispatch_28 dX3_dispatch_30 dX3_dispatch_33 (by decide) (by decide) (by decide) (by decide)
  · have c_1 : (decide (da = -1) || inB da (n 0)) = true := b2i_t c_1
    refine lv_aload_n hx hb dX3_dispatch_8 rfl (lv_at hl 0 rfl) ?_
    refine lv_iload_n hx hb dX3_dispatch_9 rfl (lv_at hl 2 rfl) ?_
    refine W.callR (W.runV (As := [.int db]) (rest := []) ⟨hx, hb, hml, hown, hts⟩ (c_X3_isRegisterOrNone l dC dI cs a n f db hB) (cwV 1 hts gX3_dispatch_X3_isRegisterOrNone rfl rfl rfl (by decide +kernel) ⟨Nat.le_of_ble_eq_true rfl, Nat.le_of_ble_eq_true rfl⟩) (rd_preV (q := (RX3, TX3, 9)) hP hK 0 rfl rfl) rfl rfl hl.1 rfl (lv_room (Nat.le_of_ble_eq_true rfl)) dX3_dispatch_10 ⟨Nat.zero_le _, Nat.zero_le _⟩) ?_
    refine W.eq (g2 := F0 m 13 ls (.int (b2i (decide (db = -1) || inB db (n 0))) :: [])) rfl ?_
    refine lv_if_eq (tgt := 24) hx hb dX3_dispatch_13 (by decide) (fun c_2 => ?_) (fun c_2 => ?_)
    · have c_2 : (decide (db = -1) || inB db (n 0)) = false := b2i_f c_2
      exact th_go hlt hx hb hown hlocks (by rw [hml]; exact hl.1) hno hTH.1 thA_m thA_f (hTH.2.2.2.1 (54, "no such register") (by decide)) hTH.2.2.2.2.1 hTH.2.2.2.2.2 dX3_dispatch_24 dX3_dispatch_27 dX3_dispatch_28 dX3_dispatch_30 dX3_dispatch_33 (by decide) (by decide) (by decide) (by decide)
    · have c_2 : (decide (db = -1) || inB db (n 0)) = true := b2i_t c_2
      refine lv_aload_n hx hb dX3_dispatch_16 rfl (lv_at hl 0 rfl) ?_
      refine lv_iload_n hx hb dX3_dispatch_17 rfl (lv_at hl 3 rfl) ?_
      refine W.callR (W.runV (As := [.int dt]) (rest := []) ⟨hx, hb, hml, hown, hts⟩ (c_X3_isRegisterOrNone l dC dI cs a n f dt hB) (cwV 1 hts gX3_dispatch_X3_isRegisterOrNone rfl rfl rfl (by decide +kernel) ⟨Nat.le_of_ble_eq_true rfl, Nat.le_of_ble_eq_true rfl⟩) (rd_preV (q := (RX3, TX3, 9)) hP hK 0 rfl rfl) rfl rfl hl.1 rfl (lv_room (Nat.le_of_ble_eq_true rfl)) dX3_dispatch_18 ⟨Nat.zero_le _, Nat.zero_le _⟩) ?_
      refine W.eq (g2 := F0 m 21 ls (.int (b2i (decide (dt = -1) || inB dt (n 0))) :: [])) rfl ?_
      refine lv_if_ne (tgt := 34) hx hb dX3_dispatch_21 (by decide) (fun c_3 => ?_) (fun c_3 => ?_)
      · have c_3 : (decide (dt = -1) || inB dt (n 0)) = true := b2i_t c_3
        rw [c_1, c_2, c_3] at hbad; exact absurd hbad (by decide)
      · have c_3 : (decide (dt = -1) || inB dt (n 0)) = false := b2i_f c_3
        exact th_go hlt hx hb hown hlocks (by rw [hml]; exact hl.1) hno hTH.1 thA_m thA_f (hTH.2.2.2.1 (54, "no such register") (by decide)) hTH.2.2.2.2.1 hTH.2.2.2.2.2 dX3_dispatch_24 dX3_dispatch_27 dX3_dispatch_28 dX3_dispatch_30 dX3_dispatch_33 (by decide) (by decide) (by decide) (by decide)

set_option maxHeartbeats 4000000 in
set_option maxRecDepth 100000 in
theorem t_X3_move_A (l : Launch) (hlt : l.stackTraces = false) (dC : Nat → ClassId) (dI : Nat → Nat → Nat) (cs : ClassId × ClassId) (a n : Nat → Nat) (f : Nat → Nat → Int32) (da : Int32) (dt : Int32) (hbad : (inB da (n 0) && inB dt (n 0)) = false) (hB : x_bd n)  : vx_Met l yX3_move wsX3_move ({ frames := 7, cells := 1, slots := 6, locals := 95 }) (thPc (dC, dI) vwCl (wX cs a n f) (tyl cs) [.ref (a 0), .int da, .int dt]) noQ (thX eA) 1 6 (fun _ => False) := by
  refine th_of (cc := cX3_move) (maxL := 4) (ret := (some .int)) (own := RX3) (by decide) rfl rfl (Nat.le_of_ble_eq_true rfl) ?_
  intro p e s m below meth c hx hb hr hml hts hown hlocks hP hK hTH hno ls hl
  have hl : lv_has ls 4 [(0, .ref (a 0)), (1, .int da), (2, .int dt)] := hl
  obtain ⟨B1, B2, B3, B4, B5, B6, B7, B8, B9, B10, B11, B12, B13, B14, B15⟩ := id hB
  refine lv_aload_n hx hb dX3_move_0 rfl (lv_at hl 0 rfl) ?_
  refine lv_iload_n hx hb dX3_move_1 rfl (lv_at hl 1 rfl) ?_
  refine W.callR (W.runV (As := [.int da]) (rest := []) ⟨hx, hb, hml, hown, hts⟩ (c_X3_isRegister l dC dI cs a n f da hB) (cwV 1 hts gX3_move_X3_isRegister rfl rfl rfl (by decide +kernel) ⟨Nat.le_of_ble_eq_true rfl, Nat.le_of_ble_eq_true rfl⟩) (rd_preV (q := (RX3, TX3, 9)) hP hK 0 rfl rfl) rfl rfl hl.1 rfl (lv_room (Nat.le_of_ble_eq_true rfl)) dX3_move_2 ⟨Nat.zero_le _, Nat.zero_le _⟩) ?_
  refine W.eq (g2 := F0 m 5 ls (.int (b2i (inB da (n 0))) :: [])) rfl ?_
  refine lv_if_eq (tgt := 16) hx hb dX3_move_5 (by decide) (fun c_1 => ?_) (fun c_1 => ?_)
  · have c_1 : inB da (n 0) = false := b2i_f c_1
    exact th_go hlt hx hb hown hlocks (by rw [hml]; exact hl.1) hno hTH.1 thA_m thA_f (hTH.2.2.2.1 (54, "no such register") (by decide)) hTH.2.2.2.2.1 hTH.2.2.2.2.2 dX3_move_16 dX3_move_19 dX3_move_20 dX3_move_22 dX3_move_25 (by decide) (by decide) (by decide) (by decide)
  · have c_1 : inB da (n 0) = true := b2i_t c_1
    obtain ⟨jda, hjda, rfl⟩ := inB_t c_1 (by omega)
    refine lv_aload_n hx hb dX3_move_8 rfl (lv_at hl 0 rfl) ?_
    refine lv_iload_n hx hb dX3_move_9 rfl (lv_at hl 2 rfl) ?_
    refine W.callR (W.runV (As := [.int dt]) (rest := []) ⟨hx, hb, hml, hown, hts⟩ (c_X3_isRegister l dC dI cs a n f dt hB) (cwV 1 hts gX3_move_X3_isRegister rfl rfl rfl (by decide +kernel) ⟨Nat.le_of_ble_eq_true rfl, Nat.le_of_ble_eq_true rfl⟩) (rd_preV (q := (RX3, TX3, 9)) hP hK 0 rfl rfl) rfl rfl hl.1 rfl (lv_room (Nat.le_of_ble_eq_true rfl)) dX3_move_10 ⟨Nat.zero_le _, Nat.zero_le _⟩) ?_
    refine W.eq (g2 := F0 m 13 ls (.int (b2i (inB dt (n 0))) :: [])) rfl ?_
    refine lv_if_ne (tgt := 26) hx hb dX3_move_13 (by decide) (fun c_2 => ?_) (fun c_2 => ?_)
    · have c_2 : inB dt (n 0) = true := b2i_t c_2
      obtain ⟨jdt, hjdt, rfl⟩ := inB_t c_2 (by omega)
      rw [c_1, c_2] at hbad; exact absurd hbad (by decide)
    · have c_2 : inB dt (n 0) = false := b2i_f c_2
      exact th_go hlt hx hb hown hlocks (by rw [hml]; exact hl.1) hno hTH.1 thA_m thA_f (hTH.2.2.2.1 (54, "no such register") (by decide)) hTH.2.2.2.2.1 hTH.2.2.2.2.2 dX3_move_16 dX3_move_19 dX3_move_20 dX3_move_22 dX3_move_25 (by decide) (by decide) (by decide) (by decide)

set_option maxHeartbeats 4000000 in
set_option maxRecDepth 100000 in
theorem t_X3_port_A (l : Launch) (hlt : l.stackTraces = false) (dC : Nat → ClassId) (dI : Nat → Nat → Nat) (cs : ClassId × ClassId) (a n : Nat → Nat) (f : Nat → Nat → Int32) (y : Int32) (z : Int32) (hbad : inB y (n 2) = false) (hB : x_bd n)  : vx_Met l yX3_port wsX3_port ({ frames := 7, cells := 1, slots := 6, locals := 95 }) (thPc (dC, dI) vwCl (wX cs a n f) (tyl cs) [.ref (a 0), .int y, .int z]) noQ (thX eA) 1 6 (fun _ => False) := by
  refine th_of (cc := cX3_port) (maxL := 4) (ret := (some .int)) (own := RX3) (by decide) rfl rfl (Nat.le_of_ble_eq_true rfl) ?_
  intro p e s m below meth c hx hb hr hml hts hown hlocks hP hK hTH hno ls hl
  have hl : lv_has ls 4 [(0, .ref (a 0)), (1, .int y), (2, .int z)] := hl
  have hinX3 : ∀ w ∈ wsX30, w ∈ wsX3_port := by decide +kernel
  obtain ⟨B1, B2, B3, B4, B5, B6, B7, B8, B9, B10, B11, B12, B13, B14, B15⟩ := id hB
  refine lv_aload_n hx hb dX3_port_0 rfl (lv_at hl 0 rfl) ?_
  refine va_get (D := (dC, dI)) (ci := 4) (v := .ref (a 2)) (C := RX3) (T := TX3) (N := 9) hx hb hts hinX3 hown hK hP 0 rfl rfl 1 (by decide) (hts (.fieldLink RX3 27 "RenameRows" "ring" "LRenameRows$Ring;") (by decide +kernel)) (fun _ h9 => h9) rfl dX3_port_1 ?_
  refine lv_iload_n hx hb dX3_port_4 rfl (lv_at hl 1 rfl) ?_
  refine W.callR (W.runV (As := [.int y]) (rest := []) ⟨hx, hb, hml, hown, hts⟩ (c_X2_isPlace l dC dI cs a n f y hB) (cwV 1 hts gX3_port_X2_isPlace rfl rfl rfl (by decide +kernel) ⟨Nat.le_of_ble_eq_true rfl, Nat.le_of_ble_eq_true rfl⟩) (rd_preV (q := (RX2, TX2, 10)) hP hK 2 rfl rfl) rfl rfl hl.1 rfl (lv_room (Nat.le_of_ble_eq_true rfl)) dX3_port_5 ⟨Nat.zero_le _, Nat.zero_le _⟩) ?_
  refine W.eq (g2 := F0 m 8 ls (.int (b2i (inB y (n 2))) :: [])) rfl ?_
  refine lv_if_ne (tgt := 21) hx hb dX3_port_8 (by decide) (fun c_1 => absurd (b2i_t c_1) (by rw [hbad]; decide)) (fun c_1 => ?_)
  have c_1 : inB y (n 2) = false := b2i_f c_1
  exact th_go hlt hx hb hown hlocks (by rw [hml]; exact hl.1) hno hTH.1 thA_m thA_f (hTH.2.2.2.1 (94, "no such place") (by decide)) hTH.2.2.2.2.1 hTH.2.2.2.2.2 dX3_port_11 dX3_port_14 dX3_port_15 dX3_port_17 dX3_port_20 (by decide) (by decide) (by decide) (by decide)

set_option maxHeartbeats 4000000 in
set_option maxRecDepth 100000 in
theorem t_X3_port_S (l : Launch) (hlt : l.stackTraces = false) (dC : Nat → ClassId) (dI : Nat → Nat → Nat) (cs : ClassId × ClassId) (a n : Nat → Nat) (f : Nat → Nat → Int32) (j : Nat) (z : Int32) (hbad : x_isIn n f (nI j) (nI 0) = false) (hB : x_bd n) (h1 : j < n 2)  : vx_Met l yX3_port wsX3_port ({ frames := 6, cells := 1, slots := 6, locals := 82 }) (thPc (dC, dI) vwCl (wX cs a n f) (tyl cs) [.ref (a 0), .int (nI j), .int z]) noQ (thX eS) 1 6 (fun _ => False) := by
  refine th_of (cc := cX3_port) (maxL := 4) (ret := (some .int)) (own := RX3) (by decide) rfl rfl (Nat.le_of_ble_eq_true rfl) ?_
  intro p e s m below meth c hx hb hr hml hts hown hlocks hP hK hTH hno ls hl
  have hl : lv_has ls 4 [(0, .ref (a 0)), (1, .int (nI j)), (2, .int z)] := hl
  have hinX3 : ∀ w ∈ wsX30, w ∈ wsX3_port := by decide +kernel
  obtain ⟨B1, B2, B3, B4, B5, B6, B7, B8, B9, B10, B11, B12, B13, B14, B15⟩ := id hB
  refine lv_aload_n hx hb dX3_port_0 rfl (lv_at hl 0 rfl) ?_
  refine va_get (D := (dC, dI)) (ci := 4) (v := .ref (a 2)) (C := RX3) (T := TX3) (N := 9) hx hb hts hinX3 hown hK hP 0 rfl rfl 1 (by decide) (hts (.fieldLink RX3 27 "RenameRows" "ring" "LRenameRows$Ring;") (by decide +kernel)) (fun _ h9 => h9) rfl dX3_port_1 ?_
  refine lv_iload_n hx hb dX3_port_4 rfl (lv_at hl 1 rfl) ?_
  refine W.callR (W.runV (As := [.int (nI j)]) (rest := []) ⟨hx, hb, hml, hown, hts⟩ (c_X2_isPlace l dC dI cs a n f (nI j) hB) (cwV 1 hts gX3_port_X2_isPlace rfl rfl rfl (by decide +kernel) ⟨Nat.le_of_ble_eq_true rfl, Nat.le_of_ble_eq_true rfl⟩) (rd_preV (q := (RX2, TX2, 10)) hP hK 2 rfl rfl) rfl rfl hl.1 rfl (lv_room (Nat.le_of_ble_eq_true rfl)) dX3_port_5 ⟨Nat.zero_le _, Nat.zero_le _⟩) ?_
  refine W.eq (g2 := F0 m 8 ls (.int (b2i (inB (nI j) (n 2))) :: [])) rfl ?_
  refine lv_if_ne (tgt := 21) hx hb dX3_port_8 (by decide) (fun c_1 => ?_) (fun c_1 => absurd (b2i_f c_1) (by rw [inB_nI (by omega) (by omega)]; simp; omega))
  have c_1 : inB (nI j) (n 2) = true := b2i_t c_1
  refine lv_aload_n hx hb dX3_port_21 rfl (lv_at hl 0 rfl) ?_
  refine va_get (D := (dC, dI)) (ci := 4) (v := .ref (a 2)) (C := RX3) (T := TX3) (N := 9) hx hb hts hinX3 hown hK hP 0 rfl rfl 1 (by decide) (hts (.fieldLink RX3 27 "RenameRows" "ring" "LRenameRows$Ring;") (by decide +kernel)) (fun _ h9 => h9) rfl dX3_port_22 ?_
  refine lv_iload_n hx hb dX3_port_25 rfl (lv_at hl 1 rfl) ?_
  refine lv_iconst (v := nI 0) hx hb dX3_port_26 (by decide) ?_
  refine W.callR (W.runV (As := [.int (nI j), .int (nI 0)]) (rest := []) ⟨hx, hb, hml, hown, hts⟩ (c_X2_isInState l dC dI cs a n f (nI j) (nI 0) hB) (cwV 2 hts gX3_port_X2_isInState rfl rfl rfl (by decide +kernel) ⟨Nat.le_of_ble_eq_true rfl, Nat.le_of_ble_eq_true rfl⟩) (rd_preV (q := (RX2, TX2, 10)) hP hK 2 rfl rfl) rfl rfl hl.1 rfl (lv_room (Nat.le_of_ble_eq_true rfl)) dX3_port_27 ⟨Nat.zero_le _, Nat.zero_le _⟩) ?_
  refine W.eq (g2 := F0 m 30 ls (.int (b2i (x_isIn n f (nI j) (nI 0))) :: [])) rfl ?_
  refine lv_if_ne (tgt := 43) hx hb dX3_port_30 (by decide) (fun c_2 => absurd (b2i_t c_2) (by rw [hbad]; decide)) (fun c_2 => ?_)
  have c_2 : x_isIn n f (nI j) (nI 0) = false := b2i_f c_2
  exact th_go hlt hx hb hown hlocks (by rw [hml]; exact hl.1) hno hTH.2.1 thS_m thS_f (hTH.2.2.2.1 (102, "no waiting row there") (by decide)) hTH.2.2.2.2.1 hTH.2.2.2.2.2 dX3_port_33 dX3_port_36 dX3_port_37 dX3_port_39 dX3_port_42 (by decide) (by decide) (by decide) (by decide)

set_option maxHeartbeats 4000000 in
set_option maxRecDepth 100000 in
theorem t_X3_port_G (l : Launch) (hlt : l.stackTraces = false) (dC : Nat → ClassId) (dI : Nat → Nat → Nat) (cs : ClassId × ClassId) (a n : Nat → Nat) (f : Nat → Nat → Int32) (j : Nat) (z : Int32) (v1 : x_isIn n f (nI j) (nI 0) = true) (hbad : inB z 8 = false) (hB : x_bd n) (h1 : j < n 2)  : vx_Met l yX3_port wsX3_port ({ frames := 6, cells := 1, slots := 6, locals := 82 }) (thPc (dC, dI) vwCl (wX cs a n f) (tyl cs) [.ref (a 0), .int (nI j), .int z]) noQ (thX eG) 1 6 (fun _ => False) := by
  refine th_of (cc := cX3_port) (maxL := 4) (ret := (some .int)) (own := RX3) (by decide) rfl rfl (Nat.le_of_ble_eq_true rfl) ?_
  intro p e s m below meth c hx hb hr hml hts hown hlocks hP hK hTH hno ls hl
  have hl : lv_has ls 4 [(0, .ref (a 0)), (1, .int (nI j)), (2, .int z)] := hl
  have hinX3 : ∀ w ∈ wsX30, w ∈ wsX3_port := by decide +kernel
  obtain ⟨B1, B2, B3, B4, B5, B6, B7, B8, B9, B10, B11, B12, B13, B14, B15⟩ := id hB
  refine lv_aload_n hx hb dX3_port_0 rfl (lv_at hl 0 rfl) ?_
  refine va_get (D := (dC, dI)) (ci := 4) (v := .ref (a 2)) (C := RX3) (T := TX3) (N := 9) hx hb hts hinX3 hown hK hP 0 rfl rfl 1 (by decide) (hts (.fieldLink RX3 27 "RenameRows" "ring" "LRenameRows$Ring;") (by decide +kernel)) (fun _ h9 => h9) rfl dX3_port_1 ?_
  refine lv_iload_n hx hb dX3_port_4 rfl (lv_at hl 1 rfl) ?_
  refine W.callR (W.runV (As := [.int (nI j)]) (rest := []) ⟨hx, hb, hml, hown, hts⟩ (c_X2_isPlace l dC dI cs a n f (nI j) hB) (cwV 1 hts gX3_port_X2_isPlace rfl rfl rfl (by decide +kernel) ⟨Nat.le_of_ble_eq_true rfl, Nat.le_of_ble_eq_true rfl⟩) (rd_preV (q := (RX2, TX2, 10)) hP hK 2 rfl rfl) rfl rfl hl.1 rfl (lv_room (Nat.le_of_ble_eq_true rfl)) dX3_port_5 ⟨Nat.zero_le _, Nat.zero_le _⟩) ?_
  refine W.eq (g2 := F0 m 8 ls (.int (b2i (inB (nI j) (n 2))) :: [])) rfl ?_
  refine lv_if_ne (tgt := 21) hx hb dX3_port_8 (by decide) (fun c_1 => ?_) (fun c_1 => absurd (b2i_f c_1) (by rw [inB_nI (by omega) (by omega)]; simp; omega))
  have c_1 : inB (nI j) (n 2) = true := b2i_t c_1
  refine lv_aload_n hx hb dX3_port_21 rfl (lv_at hl 0 rfl) ?_
  refine va_get (D := (dC, dI)) (ci := 4) (v := .ref (a 2)) (C := RX3) (T := TX3) (N := 9) hx hb hts hinX3 hown hK hP 0 rfl rfl 1 (by decide) (hts (.fieldLink RX3 27 "RenameRows" "ring" "LRenameRows$Ring;") (by decide +kernel)) (fun _ h9 => h9) rfl dX3_port_22 ?_
  refine lv_iload_n hx hb dX3_port_25 rfl (lv_at hl 1 rfl) ?_
  refine lv_iconst (v := nI 0) hx hb dX3_port_26 (by decide) ?_
  refine W.callR (W.runV (As := [.int (nI j), .int (nI 0)]) (rest := []) ⟨hx, hb, hml, hown, hts⟩ (c_X2_isInState l dC dI cs a n f (nI j) (nI 0) hB) (cwV 2 hts gX3_port_X2_isInState rfl rfl rfl (by decide +kernel) ⟨Nat.le_of_ble_eq_true rfl, Nat.le_of_ble_eq_true rfl⟩) (rd_preV (q := (RX2, TX2, 10)) hP hK 2 rfl rfl) rfl rfl hl.1 rfl (lv_room (Nat.le_of_ble_eq_true rfl)) dX3_port_27 ⟨Nat.zero_le _, Nat.zero_le _⟩) ?_
  refine W.eq (g2 := F0 m 30 ls (.int (b2i (x_isIn n f (nI j) (nI 0))) :: [])) rfl ?_
  refine lv_if_ne (tgt := 43) hx hb dX3_port_30 (by decide) (fun c_2 => ?_) (fun c_2 => absurd (b2i_f c_2) (by rw [v1]; decide))
  have c_2 : x_isIn n f (nI j) (nI 0) = true := b2i_t c_2
  refine lv_iload_n hx hb dX3_port_43 rfl (lv_at hl 2 rfl) ?_
  refine lv_if_lt (tgt := 53) hx hb dX3_port_44 (by decide) (fun c_3 => ?_) (fun c_3 => ?_)
  · exact th_go hlt hx hb hown hlocks (by rw [hml]; exact hl.1) hno hTH.2.2.1 thG_m thG_f (hTH.2.2.2.1 (107, "no such port") (by decide)) hTH.2.2.2.2.1 hTH.2.2.2.2.2 dX3_port_53 dX3_port_56 dX3_port_57 dX3_port_59 dX3_port_62 (by decide) (by decide) (by decide) (by decide)
  · refine lv_iload_n hx hb dX3_port_47 rfl (lv_at hl 2 rfl) ?_
    refine lv_bipush (v := nI 8) hx hb dX3_port_48 (by decide) ?_
    refine lv_icmp_lt (tgt := 63) hx hb dX3_port_50 (by decide) (fun c_4 => ?_) (fun c_4 => ?_)
    · have q9 := inB_in c_3 (fun q => absurd c_4 (nl32 q)); rw [hbad] at q9; cases q9
    · exact th_go hlt hx hb hown hlocks (by rw [hml]; exact hl.1) hno hTH.2.2.1 thG_m thG_f (hTH.2.2.2.1 (107, "no such port") (by decide)) hTH.2.2.2.2.1 hTH.2.2.2.2.2 dX3_port_53 dX3_port_56 dX3_port_57 dX3_port_59 dX3_port_62 (by decide) (by decide) (by decide) (by decide)

set_option maxHeartbeats 4000000 in
set_option maxRecDepth 100000 in
theorem t_X3_select_G (l : Launch) (hlt : l.stackTraces = false) (dC : Nat → ClassId) (dI : Nat → Nat → Nat) (cs : ClassId × ClassId) (a n : Nat → Nat) (f : Nat → Nat → Int32) (y : Int32) (hbad : y < nI 1 ∨ nI 8 < y) (hB : x_bd n)  : vx_Met l yX3_select wsX3_select ({ frames := 6, cells := 1, slots := 6, locals := 82 }) (thPc (dC, dI) vwCl (wX cs a n f) (tyl cs) [.ref (a 0), .int y]) noQ (thX eG) 1 6 (fun _ => False) := by
  refine th_of (cc := cX3_select) (maxL := 5) (ret := (some .int)) (own := RX3) (by decide) rfl rfl (Nat.le_of_ble_eq_true rfl) ?_
  intro p e s m below meth c hx hb hr hml hts hown hlocks hP hK hTH hno ls hl
  have hl : lv_has ls 5 [(0, .ref (a 0)), (1, .int y)] := hl
  obtain ⟨B1, B2, B3, B4, B5, B6, B7, B8, B9, B10, B11, B12, B13, B14, B15⟩ := id hB
  refine lv_iload_n hx hb dX3_select_0 rfl (lv_at hl 1 rfl) ?_
  refine lv_iconst (v := nI 1) hx hb dX3_select_1 (by decide) ?_
  refine lv_icmp_lt (tgt := 11) hx hb dX3_select_2 (by decide) (fun c_1 => ?_) (fun c_1 => ?_)
  · exact th_go hlt hx hb hown hlocks (by rw [hml]; exact hl.1) hno hTH.2.2.1 thG_m thG_f (hTH.2.2.2.1 (116, "ports are not 1 .. 8") (by decide)) hTH.2.2.2.2.1 hTH.2.2.2.2.2 dX3_select_11 dX3_select_14 dX3_select_15 dX3_select_17 dX3_select_20 (by decide) (by decide) (by decide) (by decide)
  · refine lv_iload_n hx hb dX3_select_5 rfl (lv_at hl 1 rfl) ?_
    refine lv_bipush (v := nI 8) hx hb dX3_select_6 (by decide) ?_
    refine lv_icmp_le (tgt := 21) hx hb dX3_select_8 (by decide) (fun c_2 => ?_) (fun c_2 => ?_)
    · rcases hbad with q | q
      · exact absurd q c_1
      · exact absurd q (nl32 c_2)
    · exact th_go hlt hx hb hown hlocks (by rw [hml]; exact hl.1) hno hTH.2.2.1 thG_m thG_f (hTH.2.2.2.1 (116, "ports are not 1 .. 8") (by decide)) hTH.2.2.2.2.1 hTH.2.2.2.2.2 dX3_select_11 dX3_select_14 dX3_select_15 dX3_select_17 dX3_select_20 (by decide) (by decide) (by decide) (by decide)

set_option maxHeartbeats 4000000 in
set_option maxRecDepth 100000 in
theorem t_X3_selected_A (l : Launch) (hlt : l.stackTraces = false) (dC : Nat → ClassId) (dI : Nat → Nat → Nat) (cs : ClassId × ClassId) (a n : Nat → Nat) (f : Nat → Nat → Int32) (y : Int32) (hbad : inB y 8 = false) (hB : x_bd n)  : vx_Met l yX3_selected wsX3_selected ({ frames := 7, cells := 1, slots := 6, locals := 95 }) (thPc (dC, dI) vwCl (wX cs a n f) (tyl cs) [.ref (a 0), .int y]) noQ (thX eA) 1 6 (fun _ => False) := by
  refine th_of (cc := cX3_selected) (maxL := 2) (ret := (some .int)) (own := RX3) (by decide) rfl rfl (Nat.le_of_ble_eq_true rfl) ?_
  intro p e s m below meth c hx hb hr hml hts hown hlocks hP hK hTH hno ls hl
  have hl : lv_has ls 2 [(0, .ref (a 0)), (1, .int y)] := hl
  obtain ⟨B1, B2, B3, B4, B5, B6, B7, B8, B9, B10, B11, B12, B13, B14, B15⟩ := id hB
  refine lv_iload_n hx hb dX3_selected_0 rfl (lv_at hl 1 rfl) ?_
  refine lv_if_lt (tgt := 10) hx hb dX3_selected_1 (by decide) (fun c_1 => ?_) (fun c_1 => ?_)
  · exact th_go hlt hx hb hown hlocks (by rw [hml]; exact hl.1) hno hTH.1 thA_m thA_f (hTH.2.2.2.1 (107, "no such port") (by decide)) hTH.2.2.2.2.1 hTH.2.2.2.2.2 dX3_selected_10 dX3_selected_13 dX3_selected_14 dX3_selected_16 dX3_selected_19 (by decide) (by decide) (by decide) (by decide)
  · refine lv_iload_n hx hb dX3_selected_4 rfl (lv_at hl 1 rfl) ?_
    refine lv_bipush (v := nI 8) hx hb dX3_selected_5 (by decide) ?_
    refine lv_icmp_lt (tgt := 20) hx hb dX3_selected_7 (by decide) (fun c_2 => ?_) (fun c_2 => ?_)
    · have q9 := inB_in c_1 (fun q => absurd c_2 (nl32 q)); rw [hbad] at q9; cases q9
    · exact th_go hlt hx hb hown hlocks (by rw [hml]; exact hl.1) hno hTH.1 thA_m thA_f (hTH.2.2.2.1 (107, "no such port") (by decide)) hTH.2.2.2.2.1 hTH.2.2.2.2.2 dX3_selected_10 dX3_selected_13 dX3_selected_14 dX3_selected_16 dX3_selected_19 (by decide) (by decide) (by decide) (by decide)

set_option maxHeartbeats 4000000 in
set_option maxRecDepth 100000 in
theorem t_X3_end_A (l : Launch) (hlt : l.stackTraces = false) (dC : Nat → ClassId) (dI : Nat → Nat → Nat) (cs : ClassId × ClassId) (a n : Nat → Nat) (f : Nat → Nat → Int32) (y : Int32) (hbad : inB y (n 2) = false) (hB : x_bd n)  : vx_Met l yX3_end wsX3_end ({ frames := 7, cells := 1, slots := 6, locals := 95 }) (thPc (dC, dI) vwCl (wX cs a n f) (tyl cs) [.ref (a 0), .int y]) noQ (thX eA) 1 6 (fun _ => False) := by
  refine th_of (cc := cX3_end) (maxL := 3) (ret := (some .int)) (own := RX3) (by decide) rfl rfl (Nat.le_of_ble_eq_true rfl) ?_
  intro p e s m below meth c hx hb hr hml hts hown hlocks hP hK hTH hno ls hl
  have hl : lv_has ls 3 [(0, .ref (a 0)), (1, .int y)] := hl
  have hinX3 : ∀ w ∈ wsX30, w ∈ wsX3_end := by decide +kernel
  obtain ⟨B1, B2, B3, B4, B5, B6, B7, B8, B9, B10, B11, B12, B13, B14, B15⟩ := id hB
  refine lv_aload_n hx hb dX3_end_0 rfl (lv_at hl 0 rfl) ?_
  refine va_get (D := (dC, dI)) (ci := 4) (v := .ref (a 2)) (C := RX3) (T := TX3) (N := 9) hx hb hts hinX3 hown hK hP 0 rfl rfl 1 (by decide) (hts (.fieldLink RX3 27 "RenameRows" "ring" "LRenameRows$Ring;") (by decide +kernel)) (fun _ h9 => h9) rfl dX3_end_1 ?_
  refine lv_iload_n hx hb dX3_end_4 rfl (lv_at hl 1 rfl) ?_
  refine W.callR (W.runV (As := [.int y]) (rest := []) ⟨hx, hb, hml, hown, hts⟩ (c_X2_isPlace l dC dI cs a n f y hB) (cwV 1 hts gX3_end_X2_isPlace rfl rfl rfl (by decide +kernel) ⟨Nat.le_of_ble_eq_true rfl, Nat.le_of_ble_eq_true rfl⟩) (rd_preV (q := (RX2, TX2, 10)) hP hK 2 rfl rfl) rfl rfl hl.1 rfl (lv_room (Nat.le_of_ble_eq_true rfl)) dX3_end_5 ⟨Nat.zero_le _, Nat.zero_le _⟩) ?_
  refine W.eq (g2 := F0 m 8 ls (.int (b2i (inB y (n 2))) :: [])) rfl ?_
  refine lv_if_ne (tgt := 21) hx hb dX3_end_8 (by decide) (fun c_1 => absurd (b2i_t c_1) (by rw [hbad]; decide)) (fun c_1 => ?_)
  have c_1 : inB y (n 2) = false := b2i_f c_1
  exact th_go hlt hx hb hown hlocks (by rw [hml]; exact hl.1) hno hTH.1 thA_m thA_f (hTH.2.2.2.1 (94, "no such place") (by decide)) hTH.2.2.2.2.1 hTH.2.2.2.2.2 dX3_end_11 dX3_end_14 dX3_end_15 dX3_end_17 dX3_end_20 (by decide) (by decide) (by decide) (by decide)

set_option maxHeartbeats 4000000 in
set_option maxRecDepth 100000 in
theorem t_X3_end_S (l : Launch) (hlt : l.stackTraces = false) (dC : Nat → ClassId) (dI : Nat → Nat → Nat) (cs : ClassId × ClassId) (a n : Nat → Nat) (f : Nat → Nat → Int32) (j : Nat) (hbad : x_isIn n f (nI j) (nI 1) = false) (hB : x_bd n) (h1 : j < n 2)  : vx_Met l yX3_end wsX3_end ({ frames := 6, cells := 1, slots := 6, locals := 82 }) (thPc (dC, dI) vwCl (wX cs a n f) (tyl cs) [.ref (a 0), .int (nI j)]) noQ (thX eS) 1 6 (fun _ => False) := by
  refine th_of (cc := cX3_end) (maxL := 3) (ret := (some .int)) (own := RX3) (by decide) rfl rfl (Nat.le_of_ble_eq_true rfl) ?_
  intro p e s m below meth c hx hb hr hml hts hown hlocks hP hK hTH hno ls hl
  have hl : lv_has ls 3 [(0, .ref (a 0)), (1, .int (nI j))] := hl
  have hinX3 : ∀ w ∈ wsX30, w ∈ wsX3_end := by decide +kernel
  obtain ⟨B1, B2, B3, B4, B5, B6, B7, B8, B9, B10, B11, B12, B13, B14, B15⟩ := id hB
  refine lv_aload_n hx hb dX3_end_0 rfl (lv_at hl 0 rfl) ?_
  refine va_get (D := (dC, dI)) (ci := 4) (v := .ref (a 2)) (C := RX3) (T := TX3) (N := 9) hx hb hts hinX3 hown hK hP 0 rfl rfl 1 (by decide) (hts (.fieldLink RX3 27 "RenameRows" "ring" "LRenameRows$Ring;") (by decide +kernel)) (fun _ h9 => h9) rfl dX3_end_1 ?_
  refine lv_iload_n hx hb dX3_end_4 rfl (lv_at hl 1 rfl) ?_
  refine W.callR (W.runV (As := [.int (nI j)]) (rest := []) ⟨hx, hb, hml, hown, hts⟩ (c_X2_isPlace l dC dI cs a n f (nI j) hB) (cwV 1 hts gX3_end_X2_isPlace rfl rfl rfl (by decide +kernel) ⟨Nat.le_of_ble_eq_true rfl, Nat.le_of_ble_eq_true rfl⟩) (rd_preV (q := (RX2, TX2, 10)) hP hK 2 rfl rfl) rfl rfl hl.1 rfl (lv_room (Nat.le_of_ble_eq_true rfl)) dX3_end_5 ⟨Nat.zero_le _, Nat.zero_le _⟩) ?_
  refine W.eq (g2 := F0 m 8 ls (.int (b2i (inB (nI j) (n 2))) :: [])) rfl ?_
  refine lv_if_ne (tgt := 21) hx hb dX3_end_8 (by decide) (fun c_1 => ?_) (fun c_1 => absurd (b2i_f c_1) (by rw [inB_nI (by omega) (by omega)]; simp; omega))
  have c_1 : inB (nI j) (n 2) = true := b2i_t c_1
  refine lv_aload_n hx hb dX3_end_21 rfl (lv_at hl 0 rfl) ?_
  refine va_get (D := (dC, dI)) (ci := 4) (v := .ref (a 2)) (C := RX3) (T := TX3) (N := 9) hx hb hts hinX3 hown hK hP 0 rfl rfl 1 (by decide) (hts (.fieldLink RX3 27 "RenameRows" "ring" "LRenameRows$Ring;") (by decide +kernel)) (fun _ h9 => h9) rfl dX3_end_22 ?_
  refine lv_iload_n hx hb dX3_end_25 rfl (lv_at hl 1 rfl) ?_
  refine lv_iconst (v := nI 1) hx hb dX3_end_26 (by decide) ?_
  refine W.callR (W.runV (As := [.int (nI j), .int (nI 1)]) (rest := []) ⟨hx, hb, hml, hown, hts⟩ (c_X2_isInState l dC dI cs a n f (nI j) (nI 1) hB) (cwV 2 hts gX3_end_X2_isInState rfl rfl rfl (by decide +kernel) ⟨Nat.le_of_ble_eq_true rfl, Nat.le_of_ble_eq_true rfl⟩) (rd_preV (q := (RX2, TX2, 10)) hP hK 2 rfl rfl) rfl rfl hl.1 rfl (lv_room (Nat.le_of_ble_eq_true rfl)) dX3_end_27 ⟨Nat.zero_le _, Nat.zero_le _⟩) ?_
  refine W.eq (g2 := F0 m 30 ls (.int (b2i (x_isIn n f (nI j) (nI 1))) :: [])) rfl ?_
  refine lv_if_ne (tgt := 43) hx hb dX3_end_30 (by decide) (fun c_2 => absurd (b2i_t c_2) (by rw [hbad]; decide)) (fun c_2 => ?_)
  have c_2 : x_isIn n f (nI j) (nI 1) = false := b2i_f c_2
  exact th_go hlt hx hb hown hlocks (by rw [hml]; exact hl.1) hno hTH.2.1 thS_m thS_f (hTH.2.2.2.1 (124, "no going row there") (by decide)) hTH.2.2.2.2.1 hTH.2.2.2.2.2 dX3_end_33 dX3_end_36 dX3_end_37 dX3_end_39 dX3_end_42 (by decide) (by decide) (by decide) (by decide)

set_option maxHeartbeats 4000000 in
set_option maxRecDepth 100000 in
theorem t_X3_commit_G (l : Launch) (hlt : l.stackTraces = false) (dC : Nat → ClassId) (dI : Nat → Nat → Nat) (cs : ClassId × ClassId) (a n : Nat → Nat) (f : Nat → Nat → Int32) (y : Int32) (hbad : y < 0) (hB : x_bd n)  : vx_Met l yX3_commit wsX3_commit ({ frames := 6, cells := 1, slots := 6, locals := 82 }) (thPc (dC, dI) vwCl (wX cs a n f) (tyl cs) [.ref (a 0), .int y]) noQ (thX eG) 1 6 (fun _ => False) := by
  refine th_of (cc := cX3_commit) (maxL := 4) (ret := (some .int)) (own := RX3) (by decide) rfl rfl (Nat.le_of_ble_eq_true rfl) ?_
  intro p e s m below meth c hx hb hr hml hts hown hlocks hP hK hTH hno ls hl
  have hl : lv_has ls 4 [(0, .ref (a 0)), (1, .int y)] := hl
  obtain ⟨B1, B2, B3, B4, B5, B6, B7, B8, B9, B10, B11, B12, B13, B14, B15⟩ := id hB
  refine lv_iload_n hx hb dX3_commit_0 rfl (lv_at hl 1 rfl) ?_
  refine lv_if_ge (tgt := 14) hx hb dX3_commit_1 (by decide) (fun c_1 => absurd hbad (nl32 c_1)) (fun c_1 => ?_)
  exact th_go hlt hx hb hown hlocks (by rw [hml]; exact hl.1) hno hTH.2.2.1 thG_m thG_f (hTH.2.2.2.1 (135, "n is below 0") (by decide)) hTH.2.2.2.2.1 hTH.2.2.2.2.2 dX3_commit_4 dX3_commit_7 dX3_commit_8 dX3_commit_10 dX3_commit_13 (by decide) (by decide) (by decide) (by decide)

set_option maxHeartbeats 4000000 in
set_option maxRecDepth 100000 in
theorem t_X3_right_A (l : Launch) (hlt : l.stackTraces = false) (dC : Nat → ClassId) (dI : Nat → Nat → Nat) (cs : ClassId × ClassId) (a n : Nat → Nat) (f : Nat → Nat → Int32) (y : Int32) (hbad : inB y 8 = false) (hB : x_bd n)  : vx_Met l yX3_right wsX3_right ({ frames := 7, cells := 1, slots := 6, locals := 95 }) (thPc (dC, dI) vwCl (wX cs a n f) (tyl cs) [.ref (a 0), .int y]) noQ (thX eA) 1 6 (fun _ => False) := by
  refine th_of (cc := cX3_right) (maxL := 2) (ret := (some .int)) (own := RX3) (by decide) rfl rfl (Nat.le_of_ble_eq_true rfl) ?_
  intro p e s m below meth c hx hb hr hml hts hown hlocks hP hK hTH hno ls hl
  have hl : lv_has ls 2 [(0, .ref (a 0)), (1, .int y)] := hl
  have hinX3 : ∀ w ∈ wsX30, w ∈ wsX3_right := by decide +kernel
  obtain ⟨B1, B2, B3, B4, B5, B6, B7, B8, B9, B10, B11, B12, B13, B14, B15⟩ := id hB
  refine lv_aload_n hx hb dX3_right_0 rfl (lv_at hl 0 rfl) ?_
  refine va_get (D := (dC, dI)) (ci := 4) (v := .ref (a 3)) (C := RX3) (T := TX3) (N := 9) hx hb hts hinX3 hown hK hP 0 rfl rfl 2 (by decide) (hts (.fieldLink RX3 34 "RenameRows" "marks" "LRenameRows$Marks;") (by decide +kernel)) (fun _ h9 => h9) rfl dX3_right_1 ?_
  refine lv_iload_n hx hb dX3_right_4 rfl (lv_at hl 1 rfl) ?_
  refine W.callR (W.runV (As := [.int y]) (rest := []) ⟨hx, hb, hml, hown, hts⟩ (c_X0_isMark l dC dI cs a n f y hB) (cwV 1 hts gX3_right_X0_isMark rfl rfl rfl (by decide +kernel) ⟨Nat.le_of_ble_eq_true rfl, Nat.le_of_ble_eq_true rfl⟩) (rd_preV (q := (RX0, TX0, 3)) hP hK 3 rfl rfl) rfl rfl hl.1 rfl (lv_room (Nat.le_of_ble_eq_true rfl)) dX3_right_5 ⟨Nat.zero_le _, Nat.zero_le _⟩) ?_
  refine W.eq (g2 := F0 m 8 ls (.int (b2i (inB y 8)) :: [])) rfl ?_
  refine lv_if_ne (tgt := 21) hx hb dX3_right_8 (by decide) (fun c_1 => absurd (b2i_t c_1) (by rw [hbad]; decide)) (fun c_1 => ?_)
  have c_1 : inB y 8 = false := b2i_f c_1
  exact th_go hlt hx hb hown hlocks (by rw [hml]; exact hl.1) hno hTH.1 thA_m thA_f (hTH.2.2.2.1 (160, "no such mark") (by decide)) hTH.2.2.2.2.1 hTH.2.2.2.2.2 dX3_right_11 dX3_right_14 dX3_right_15 dX3_right_17 dX3_right_20 (by decide) (by decide) (by decide) (by decide)

set_option maxHeartbeats 4000000 in
set_option maxRecDepth 100000 in
theorem t_X3_right_S (l : Launch) (hlt : l.stackTraces = false) (dC : Nat → ClassId) (dI : Nat → Nat → Nat) (cs : ClassId × ClassId) (a n : Nat → Nat) (f : Nat → Nat → Int32) (j : Nat) (hbad : x_turn n f (nI j) = -1) (hB : x_bd n) (h1 : j < 8)  : vx_Met l yX3_right wsX3_right ({ frames := 6, cells := 1, slots := 6, locals := 82 }) (thPc (dC, dI) vwCl (wX cs a n f) (tyl cs) [.ref (a 0), .int (nI j)]) noQ (thX eS) 1 6 (fun _ => False) := by
  refine th_of (cc := cX3_right) (maxL := 2) (ret := (some .int)) (own := RX3) (by decide) rfl rfl (Nat.le_of_ble_eq_true rfl) ?_
  intro p e s m below meth c hx hb hr hml hts hown hlocks hP hK hTH hno ls hl
  have hl : lv_has ls 2 [(0, .ref (a 0)), (1, .int (nI j))] := hl
  have hinX3 : ∀ w ∈ wsX30, w ∈ wsX3_right := by decide +kernel
  obtain ⟨B1, B2, B3, B4, B5, B6, B7, B8, B9, B10, B11, B12, B13, B14, B15⟩ := id hB
  refine lv_aload_n hx hb dX3_right_0 rfl (lv_at hl 0 rfl) ?_
  refine va_get (D := (dC, dI)) (ci := 4) (v := .ref (a 3)) (C := RX3) (T := TX3) (N := 9) hx hb hts hinX3 hown hK hP 0 rfl rfl 2 (by decide) (hts (.fieldLink RX3 34 "RenameRows" "marks" "LRenameRows$Marks;") (by decide +kernel)) (fun _ h9 => h9) rfl dX3_right_1 ?_
  refine lv_iload_n hx hb dX3_right_4 rfl (lv_at hl 1 rfl) ?_
  refine W.callR (W.runV (As := [.int (nI j)]) (rest := []) ⟨hx, hb, hml, hown, hts⟩ (c_X0_isMark l dC dI cs a n f (nI j) hB) (cwV 1 hts gX3_right_X0_isMark rfl rfl rfl (by decide +kernel) ⟨Nat.le_of_ble_eq_true rfl, Nat.le_of_ble_eq_true rfl⟩) (rd_preV (q := (RX0, TX0, 3)) hP hK 3 rfl rfl) rfl rfl hl.1 rfl (lv_room (Nat.le_of_ble_eq_true rfl)) dX3_right_5 ⟨Nat.zero_le _, Nat.zero_le _⟩) ?_
  refine W.eq (g2 := F0 m 8 ls (.int (b2i (inB (nI j) 8)) :: [])) rfl ?_
  refine lv_if_ne (tgt := 21) hx hb dX3_right_8 (by decide) (fun c_1 => ?_) (fun c_1 => absurd (b2i_f c_1) (by rw [inB_nI (by omega) (by omega)]; simp; omega))
  have c_1 : inB (nI j) 8 = true := b2i_t c_1
  refine lv_aload_n hx hb dX3_right_21 rfl (lv_at hl 0 rfl) ?_
  refine va_get (D := (dC, dI)) (ci := 4) (v := .ref (a 3)) (C := RX3) (T := TX3) (N := 9) hx hb hts hinX3 hown hK hP 0 rfl rfl 2 (by decide) (hts (.fieldLink RX3 34 "RenameRows" "marks" "LRenameRows$Marks;") (by decide +kernel)) (fun _ h9 => h9) rfl dX3_right_22 ?_
  refine lv_iload_n hx hb dX3_right_25 rfl (lv_at hl 1 rfl) ?_
  refine W.callR (W.runV (As := [.int (nI j)]) (rest := []) ⟨hx, hb, hml, hown, hts⟩ (c_X0_isFree l dC dI cs a n f (nI j) hB) (cwV 1 hts gX3_right_X0_isFree rfl rfl rfl (by decide +kernel) ⟨Nat.le_of_ble_eq_true rfl, Nat.le_of_ble_eq_true rfl⟩) (rd_preV (q := (RX0, TX0, 3)) hP hK 3 rfl rfl) rfl rfl hl.1 rfl (lv_room (Nat.le_of_ble_eq_true rfl)) dX3_right_26 ⟨Nat.zero_le _, Nat.zero_le _⟩) ?_
  refine W.eq (g2 := F0 m 29 ls (.int (b2i (decide (x_turn n f (nI j) = -1))) :: [])) rfl ?_
  refine lv_if_eq (tgt := 42) hx hb dX3_right_29 (by decide) (fun c_2 => absurd (b2i_f c_2) (by rw [hbad]; decide)) (fun c_2 => ?_)
  have c_2 : decide (x_turn n f (nI j) = -1) = true := b2i_t c_2
  exact th_go hlt hx hb hown hlocks (by rw [hml]; exact hl.1) hno hTH.2.1 thS_m thS_f (hTH.2.2.2.1 (165, "the mark is free") (by decide)) hTH.2.2.2.2.1 hTH.2.2.2.2.2 dX3_right_32 dX3_right_35 dX3_right_36 dX3_right_38 dX3_right_41 (by decide) (by decide) (by decide) (by decide)

set_option maxHeartbeats 4000000 in
set_option maxRecDepth 100000 in
theorem t_X3_wrong_A (l : Launch) (hlt : l.stackTraces = false) (dC : Nat → ClassId) (dI : Nat → Nat → Nat) (cs : ClassId × ClassId) (a n : Nat → Nat) (f : Nat → Nat → Int32) (y : Int32) (hbad : inB y 8 = false) (hB : x_bd n)  : vx_Met l yX3_wrong wsX3_wrong ({ frames := 7, cells := 1, slots := 6, locals := 95 }) (thPc (dC, dI) vwCl (wX cs a n f) (tyl cs) [.ref (a 0), .int y]) noQ (thX eA) 1 6 (fun _ => False) := by
  refine th_of (cc := cX3_wrong) (maxL := 4) (ret := (some .int)) (own := RX3) (by decide) rfl rfl (Nat.le_of_ble_eq_true rfl) ?_
  intro p e s m below meth c hx hb hr hml hts hown hlocks hP hK hTH hno ls hl
  have hl : lv_has ls 4 [(0, .ref (a 0)), (1, .int y)] := hl
  have hinX3 : ∀ w ∈ wsX30, w ∈ wsX3_wrong := by decide +kernel
  obtain ⟨B1, B2, B3, B4, B5, B6, B7, B8, B9, B10, B11, B12, B13, B14, B15⟩ := id hB
  refine lv_aload_n hx hb dX3_wrong_0 rfl (lv_at hl 0 rfl) ?_
  refine va_get (D := (dC, dI)) (ci := 4) (v := .ref (a 3)) (C := RX3) (T := TX3) (N := 9) hx hb hts hinX3 hown hK hP 0 rfl rfl 2 (by decide) (hts (.fieldLink RX3 34 "RenameRows" "marks" "LRenameRows$Marks;") (by decide +kernel)) (fun _ h9 => h9) rfl dX3_wrong_1 ?_
  refine lv_iload_n hx hb dX3_wrong_4 rfl (lv_at hl 1 rfl) ?_
  refine W.callR (W.runV (As := [.int y]) (rest := []) ⟨hx, hb, hml, hown, hts⟩ (c_X0_isMark l dC dI cs a n f y hB) (cwV 1 hts gX3_wrong_X0_isMark rfl rfl rfl (by decide +kernel) ⟨Nat.le_of_ble_eq_true rfl, Nat.le_of_ble_eq_true rfl⟩) (rd_preV (q := (RX0, TX0, 3)) hP hK 3 rfl rfl) rfl rfl hl.1 rfl (lv_room (Nat.le_of_ble_eq_true rfl)) dX3_wrong_5 ⟨Nat.zero_le _, Nat.zero_le _⟩) ?_
  refine W.eq (g2 := F0 m 8 ls (.int (b2i (inB y 8)) :: [])) rfl ?_
  refine lv_if_ne (tgt := 21) hx hb dX3_wrong_8 (by decide) (fun c_1 => absurd (b2i_t c_1) (by rw [hbad]; decide)) (fun c_1 => ?_)
  have c_1 : inB y 8 = false := b2i_f c_1
  exact th_go hlt hx hb hown hlocks (by rw [hml]; exact hl.1) hno hTH.1 thA_m thA_f (hTH.2.2.2.1 (160, "no such mark") (by decide)) hTH.2.2.2.2.1 hTH.2.2.2.2.2 dX3_wrong_11 dX3_wrong_14 dX3_wrong_15 dX3_wrong_17 dX3_wrong_20 (by decide) (by decide) (by decide) (by decide)

set_option maxHeartbeats 4000000 in
set_option maxRecDepth 100000 in
theorem t_X3_wrong_S (l : Launch) (hlt : l.stackTraces = false) (dC : Nat → ClassId) (dI : Nat → Nat → Nat) (cs : ClassId × ClassId) (a n : Nat → Nat) (f : Nat → Nat → Int32) (j : Nat) (hbad : x_turn n f (nI j) = -1) (hB : x_bd n) (h1 : j < 8)  : vx_Met l yX3_wrong wsX3_wrong ({ frames := 6, cells := 1, slots := 6, locals := 82 }) (thPc (dC, dI) vwCl (wX cs a n f) (tyl cs) [.ref (a 0), .int (nI j)]) noQ (thX eS) 1 6 (fun _ => False) := by
  refine th_of (cc := cX3_wrong) (maxL := 4) (ret := (some .int)) (own := RX3) (by decide) rfl rfl (Nat.le_of_ble_eq_true rfl) ?_
  intro p e s m below meth c hx hb hr hml hts hown hlocks hP hK hTH hno ls hl
  have hl : lv_has ls 4 [(0, .ref (a 0)), (1, .int (nI j))] := hl
  have hinX3 : ∀ w ∈ wsX30, w ∈ wsX3_wrong := by decide +kernel
  obtain ⟨B1, B2, B3, B4, B5, B6, B7, B8, B9, B10, B11, B12, B13, B14, B15⟩ := id hB
  refine lv_aload_n hx hb dX3_wrong_0 rfl (lv_at hl 0 rfl) ?_
  refine va_get (D := (dC, dI)) (ci := 4) (v := .ref (a 3)) (C := RX3) (T := TX3) (N := 9) hx hb hts hinX3 hown hK hP 0 rfl rfl 2 (by decide) (hts (.fieldLink RX3 34 "RenameRows" "marks" "LRenameRows$Marks;") (by decide +kernel)) (fun _ h9 => h9) rfl dX3_wrong_1 ?_
  refine lv_iload_n hx hb dX3_wrong_4 rfl (lv_at hl 1 rfl) ?_
  refine W.callR (W.runV (As := [.int (nI j)]) (rest := []) ⟨hx, hb, hml, hown, hts⟩ (c_X0_isMark l dC dI cs a n f (nI j) hB) (cwV 1 hts gX3_wrong_X0_isMark rfl rfl rfl (by decide +kernel) ⟨Nat.le_of_ble_eq_true rfl, Nat.le_of_ble_eq_true rfl⟩) (rd_preV (q := (RX0, TX0, 3)) hP hK 3 rfl rfl) rfl rfl hl.1 rfl (lv_room (Nat.le_of_ble_eq_true rfl)) dX3_wrong_5 ⟨Nat.zero_le _, Nat.zero_le _⟩) ?_
  refine W.eq (g2 := F0 m 8 ls (.int (b2i (inB (nI j) 8)) :: [])) rfl ?_
  refine lv_if_ne (tgt := 21) hx hb dX3_wrong_8 (by decide) (fun c_1 => ?_) (fun c_1 => absurd (b2i_f c_1) (by rw [inB_nI (by omega) (by omega)]; simp; omega))
  have c_1 : inB (nI j) 8 = true := b2i_t c_1
  refine lv_aload_n hx hb dX3_wrong_21 rfl (lv_at hl 0 rfl) ?_
  refine va_get (D := (dC, dI)) (ci := 4) (v := .ref (a 3)) (C := RX3) (T := TX3) (N := 9) hx hb hts hinX3 hown hK hP 0 rfl rfl 2 (by decide) (hts (.fieldLink RX3 34 "RenameRows" "marks" "LRenameRows$Marks;") (by decide +kernel)) (fun _ h9 => h9) rfl dX3_wrong_22 ?_
  refine lv_iload_n hx hb dX3_wrong_25 rfl (lv_at hl 1 rfl) ?_
  refine W.callR (W.runV (As := [.int (nI j)]) (rest := []) ⟨hx, hb, hml, hown, hts⟩ (c_X0_isFree l dC dI cs a n f (nI j) hB) (cwV 1 hts gX3_wrong_X0_isFree rfl rfl rfl (by decide +kernel) ⟨Nat.le_of_ble_eq_true rfl, Nat.le_of_ble_eq_true rfl⟩) (rd_preV (q := (RX0, TX0, 3)) hP hK 3 rfl rfl) rfl rfl hl.1 rfl (lv_room (Nat.le_of_ble_eq_true rfl)) dX3_wrong_26 ⟨Nat.zero_le _, Nat.zero_le _⟩) ?_
  refine W.eq (g2 := F0 m 29 ls (.int (b2i (decide (x_turn n f (nI j) = -1))) :: [])) rfl ?_
  refine lv_if_eq (tgt := 42) hx hb dX3_wrong_29 (by decide) (fun c_2 => absurd (b2i_f c_2) (by rw [hbad]; decide)) (fun c_2 => ?_)
  have c_2 : decide (x_turn n f (nI j) = -1) = true := b2i_t c_2
  exact th_go hlt hx hb hown hlocks (by rw [hml]; exact hl.1) hno hTH.2.1 thS_m thS_f (hTH.2.2.2.1 (165, "the mark is free") (by decide)) hTH.2.2.2.2.1 hTH.2.2.2.2.2 dX3_wrong_32 dX3_wrong_35 dX3_wrong_36 dX3_wrong_38 dX3_wrong_41 (by decide) (by decide) (by decide) (by decide)

set_option maxHeartbeats 4000000 in
set_option maxRecDepth 100000 in
theorem t_X3_name_A (l : Launch) (hlt : l.stackTraces = false) (dC : Nat → ClassId) (dI : Nat → Nat → Nat) (cs : ClassId × ClassId) (a n : Nat → Nat) (f : Nat → Nat → Int32) (y : Int32) (hbad : inB y (n 0) = false) (hB : x_bd n)  : vx_Met l yX3_name wsX3_name ({ frames := 7, cells := 1, slots := 6, locals := 95 }) (thPc (dC, dI) vwCl (wX cs a n f) (tyl cs) [.ref (a 0), .int y]) noQ (thX eA) 1 6 (fun _ => False) := by
  refine th_of (cc := cX3_name) (maxL := 2) (ret := (some .int)) (own := RX3) (by decide) rfl rfl (Nat.le_of_ble_eq_true rfl) ?_
  intro p e s m below meth c hx hb hr hml hts hown hlocks hP hK hTH hno ls hl
  have hl : lv_has ls 2 [(0, .ref (a 0)), (1, .int y)] := hl
  obtain ⟨B1, B2, B3, B4, B5, B6, B7, B8, B9, B10, B11, B12, B13, B14, B15⟩ := id hB
  refine lv_aload_n hx hb dX3_name_0 rfl (lv_at hl 0 rfl) ?_
  refine lv_iload_n hx hb dX3_name_1 rfl (lv_at hl 1 rfl) ?_
  refine W.callR (W.runV (As := [.int y]) (rest := []) ⟨hx, hb, hml, hown, hts⟩ (c_X3_isRegister l dC dI cs a n f y hB) (cwV 1 hts gX3_name_X3_isRegister rfl rfl rfl (by decide +kernel) ⟨Nat.le_of_ble_eq_true rfl, Nat.le_of_ble_eq_true rfl⟩) (rd_preV (q := (RX3, TX3, 9)) hP hK 0 rfl rfl) rfl rfl hl.1 rfl (lv_room (Nat.le_of_ble_eq_true rfl)) dX3_name_2 ⟨Nat.zero_le _, Nat.zero_le _⟩) ?_
  refine W.eq (g2 := F0 m 5 ls (.int (b2i (inB y (n 0))) :: [])) rfl ?_
  refine lv_if_ne (tgt := 18) hx hb dX3_name_5 (by decide) (fun c_1 => absurd (b2i_t c_1) (by rw [hbad]; decide)) (fun c_1 => ?_)
  have c_1 : inB y (n 0) = false := b2i_f c_1
  exact th_go hlt hx hb hown hlocks (by rw [hml]; exact hl.1) hno hTH.1 thA_m thA_f (hTH.2.2.2.1 (54, "no such register") (by decide)) hTH.2.2.2.2.1 hTH.2.2.2.2.2 dX3_name_8 dX3_name_11 dX3_name_12 dX3_name_14 dX3_name_17 (by decide) (by decide) (by decide) (by decide)

set_option maxHeartbeats 4000000 in
set_option maxRecDepth 100000 in
theorem t_X3_sure_A (l : Launch) (hlt : l.stackTraces = false) (dC : Nat → ClassId) (dI : Nat → Nat → Nat) (cs : ClassId × ClassId) (a n : Nat → Nat) (f : Nat → Nat → Int32) (y : Int32) (hbad : inB y (n 0) = false) (hB : x_bd n)  : vx_Met l yX3_sure wsX3_sure ({ frames := 7, cells := 1, slots := 6, locals := 95 }) (thPc (dC, dI) vwCl (wX cs a n f) (tyl cs) [.ref (a 0), .int y]) noQ (thX eA) 1 6 (fun _ => False) := by
  refine th_of (cc := cX3_sure) (maxL := 2) (ret := (some .int)) (own := RX3) (by decide) rfl rfl (Nat.le_of_ble_eq_true rfl) ?_
  intro p e s m below meth c hx hb hr hml hts hown hlocks hP hK hTH hno ls hl
  have hl : lv_has ls 2 [(0, .ref (a 0)), (1, .int y)] := hl
  obtain ⟨B1, B2, B3, B4, B5, B6, B7, B8, B9, B10, B11, B12, B13, B14, B15⟩ := id hB
  refine lv_aload_n hx hb dX3_sure_0 rfl (lv_at hl 0 rfl) ?_
  refine lv_iload_n hx hb dX3_sure_1 rfl (lv_at hl 1 rfl) ?_
  refine W.callR (W.runV (As := [.int y]) (rest := []) ⟨hx, hb, hml, hown, hts⟩ (c_X3_isRegister l dC dI cs a n f y hB) (cwV 1 hts gX3_sure_X3_isRegister rfl rfl rfl (by decide +kernel) ⟨Nat.le_of_ble_eq_true rfl, Nat.le_of_ble_eq_true rfl⟩) (rd_preV (q := (RX3, TX3, 9)) hP hK 0 rfl rfl) rfl rfl hl.1 rfl (lv_room (Nat.le_of_ble_eq_true rfl)) dX3_sure_2 ⟨Nat.zero_le _, Nat.zero_le _⟩) ?_
  refine W.eq (g2 := F0 m 5 ls (.int (b2i (inB y (n 0))) :: [])) rfl ?_
  refine lv_if_ne (tgt := 18) hx hb dX3_sure_5 (by decide) (fun c_1 => absurd (b2i_t c_1) (by rw [hbad]; decide)) (fun c_1 => ?_)
  have c_1 : inB y (n 0) = false := b2i_f c_1
  exact th_go hlt hx hb hown hlocks (by rw [hml]; exact hl.1) hno hTH.1 thA_m thA_f (hTH.2.2.2.1 (54, "no such register") (by decide)) hTH.2.2.2.2.1 hTH.2.2.2.2.2 dX3_sure_8 dX3_sure_11 dX3_sure_12 dX3_sure_14 dX3_sure_17 (by decide) (by decide) (by decide) (by decide)

set_option maxHeartbeats 4000000 in
set_option maxRecDepth 100000 in
theorem t_X3_shares_A (l : Launch) (hlt : l.stackTraces = false) (dC : Nat → ClassId) (dI : Nat → Nat → Nat) (cs : ClassId × ClassId) (a n : Nat → Nat) (f : Nat → Nat → Int32) (y : Int32) (hbad : inB y (n 1) = false) (hB : x_bd n)  : vx_Met l yX3_shares wsX3_shares ({ frames := 7, cells := 1, slots := 6, locals := 95 }) (thPc (dC, dI) vwCl (wX cs a n f) (tyl cs) [.ref (a 0), .int y]) noQ (thX eA) 1 6 (fun _ => False) := by
  refine th_of (cc := cX3_shares) (maxL := 2) (ret := (some .int)) (own := RX3) (by decide) rfl rfl (Nat.le_of_ble_eq_true rfl) ?_
  intro p e s m below meth c hx hb hr hml hts hown hlocks hP hK hTH hno ls hl
  have hl : lv_has ls 2 [(0, .ref (a 0)), (1, .int y)] := hl
  have hinX3 : ∀ w ∈ wsX30, w ∈ wsX3_shares := by decide +kernel
  obtain ⟨B1, B2, B3, B4, B5, B6, B7, B8, B9, B10, B11, B12, B13, B14, B15⟩ := id hB
  refine lv_aload_n hx hb dX3_shares_0 rfl (lv_at hl 0 rfl) ?_
  refine va_get (D := (dC, dI)) (ci := 4) (v := .ref (a 1)) (C := RX3) (T := TX3) (N := 9) hx hb hts hinX3 hown hK hP 0 rfl rfl 0 (by decide) (hts (.fieldLink RX3 18 "RenameRows" "names" "LRenameRows$Names;") (by decide +kernel)) (fun _ h9 => h9) rfl dX3_shares_1 ?_
  refine lv_iload_n hx hb dX3_shares_4 rfl (lv_at hl 1 rfl) ?_
  refine W.callR (W.runV (As := [.int y]) (rest := []) ⟨hx, hb, hml, hown, hts⟩ (c_X1_isName l dC dI cs a n f y hB) (cwV 1 hts gX3_shares_X1_isName rfl rfl rfl (by decide +kernel) ⟨Nat.le_of_ble_eq_true rfl, Nat.le_of_ble_eq_true rfl⟩) (rd_preV (q := (RX1, TX1, 5)) hP hK 1 rfl rfl) rfl rfl hl.1 rfl (lv_room (Nat.le_of_ble_eq_true rfl)) dX3_shares_5 ⟨Nat.zero_le _, Nat.zero_le _⟩) ?_
  refine W.eq (g2 := F0 m 8 ls (.int (b2i (inB y (n 1))) :: [])) rfl ?_
  refine lv_if_ne (tgt := 21) hx hb dX3_shares_8 (by decide) (fun c_1 => absurd (b2i_t c_1) (by rw [hbad]; decide)) (fun c_1 => ?_)
  have c_1 : inB y (n 1) = false := b2i_f c_1
  exact th_go hlt hx hb hown hlocks (by rw [hml]; exact hl.1) hno hTH.1 thA_m thA_f (hTH.2.2.2.1 (188, "no such name") (by decide)) hTH.2.2.2.2.1 hTH.2.2.2.2.2 dX3_shares_11 dX3_shares_14 dX3_shares_15 dX3_shares_17 dX3_shares_20 (by decide) (by decide) (by decide) (by decide)

set_option maxHeartbeats 4000000 in
set_option maxRecDepth 100000 in
theorem t_X3_queue_G (l : Launch) (hlt : l.stackTraces = false) (dC : Nat → ClassId) (dI : Nat → Nat → Nat) (cs : ClassId × ClassId) (a n : Nat → Nat) (f : Nat → Nat → Int32) (y : Int32) (hbad : inB y (n 7) = false) (hB : x_bd n)  : vx_Met l yX3_queue wsX3_queue ({ frames := 6, cells := 1, slots := 6, locals := 82 }) (thPc (dC, dI) vwCl (wX cs a n f) (tyl cs) [.ref (a 0), .int y]) noQ (thX eG) 1 6 (fun _ => False) := by
  refine th_of (cc := cX3_queue) (maxL := 2) (ret := (some .int)) (own := RX3) (by decide) rfl rfl (Nat.le_of_ble_eq_true rfl) ?_
  intro p e s m below meth c hx hb hr hml hts hown hlocks hP hK hTH hno ls hl
  have hl : lv_has ls 2 [(0, .ref (a 0)), (1, .int y)] := hl
  have hinX3 : ∀ w ∈ wsX30, w ∈ wsX3_queue := by decide +kernel
  obtain ⟨B1, B2, B3, B4, B5, B6, B7, B8, B9, B10, B11, B12, B13, B14, B15⟩ := id hB
  refine lv_iload_n hx hb dX3_queue_0 rfl (lv_at hl 1 rfl) ?_
  refine lv_if_lt (tgt := 15) hx hb dX3_queue_1 (by decide) (fun c_1 => ?_) (fun c_1 => ?_)
  · exact th_go hlt hx hb hown hlocks (by rw [hml]; exact hl.1) hno hTH.2.2.1 thG_m thG_f (hTH.2.2.2.1 (193, "no such name in the queue") (by decide)) hTH.2.2.2.2.1 hTH.2.2.2.2.2 dX3_queue_15 dX3_queue_18 dX3_queue_19 dX3_queue_21 dX3_queue_24 (by decide) (by decide) (by decide) (by decide)
  · refine lv_iload_n hx hb dX3_queue_4 rfl (lv_at hl 1 rfl) ?_
    refine lv_aload_n hx hb dX3_queue_5 rfl (lv_at hl 0 rfl) ?_
    refine va_get (D := (dC, dI)) (ci := 4) (v := .ref (a 1)) (C := RX3) (T := TX3) (N := 9) hx hb hts hinX3 hown hK hP 0 rfl rfl 0 (by decide) (hts (.fieldLink RX3 18 "RenameRows" "names" "LRenameRows$Names;") (by decide +kernel)) (fun _ h9 => h9) rfl dX3_queue_6 ?_
    refine W.callR (W.runV (As := []) (rest := [.int y]) ⟨hx, hb, hml, hown, hts⟩ (c_X1_freeCount l dC dI cs a n f hB) (cwV 0 hts gX3_queue_X1_freeCount rfl rfl rfl (by decide +kernel) ⟨Nat.le_of_ble_eq_true rfl, Nat.le_of_ble_eq_true rfl⟩) (rd_preV (q := (RX1, TX1, 5)) hP hK 1 rfl rfl) rfl rfl hl.1 rfl (lv_room (Nat.le_of_ble_eq_true rfl)) dX3_queue_9 ⟨Nat.zero_le _, Nat.zero_le _⟩) ?_
    refine W.eq (g2 := F0 m 12 ls (.int (nI (n 7)) :: [.int y])) rfl ?_
    refine lv_icmp_lt (tgt := 25) hx hb dX3_queue_12 (by decide) (fun c_2 => ?_) (fun c_2 => ?_)
    · have q9 := inB_in c_1 (fun q => absurd c_2 (nl32 q)); rw [hbad] at q9; cases q9
    · exact th_go hlt hx hb hown hlocks (by rw [hml]; exact hl.1) hno hTH.2.2.1 thG_m thG_f (hTH.2.2.2.1 (193, "no such name in the queue") (by decide)) hTH.2.2.2.2.1 hTH.2.2.2.2.2 dX3_queue_15 dX3_queue_18 dX3_queue_19 dX3_queue_21 dX3_queue_24 (by decide) (by decide) (by decide) (by decide)

set_option maxHeartbeats 4000000 in
set_option maxRecDepth 100000 in
theorem t_X3_row_A (l : Launch) (hlt : l.stackTraces = false) (dC : Nat → ClassId) (dI : Nat → Nat → Nat) (cs : ClassId × ClassId) (a n : Nat → Nat) (f : Nat → Nat → Int32) (y : Int32) (z : Int32) (hbad : inB y (n 2) = false) (hB : x_bd n)  : vx_Met l yX3_row wsX3_row ({ frames := 7, cells := 1, slots := 6, locals := 95 }) (thPc (dC, dI) vwCl (wX cs a n f) (tyl cs) [.ref (a 0), .int y, .int z]) noQ (thX eA) 1 6 (fun _ => False) := by
  refine th_of (cc := cX3_row) (maxL := 3) (ret := (some .int)) (own := RX3) (by decide) rfl rfl (Nat.le_of_ble_eq_true rfl) ?_
  intro p e s m below meth c hx hb hr hml hts hown hlocks hP hK hTH hno ls hl
  have hl : lv_has ls 3 [(0, .ref (a 0)), (1, .int y), (2, .int z)] := hl
  have hinX3 : ∀ w ∈ wsX30, w ∈ wsX3_row := by decide +kernel
  obtain ⟨B1, B2, B3, B4, B5, B6, B7, B8, B9, B10, B11, B12, B13, B14, B15⟩ := id hB
  refine lv_aload_n hx hb dX3_row_0 rfl (lv_at hl 0 rfl) ?_
  refine va_get (D := (dC, dI)) (ci := 4) (v := .ref (a 2)) (C := RX3) (T := TX3) (N := 9) hx hb hts hinX3 hown hK hP 0 rfl rfl 1 (by decide) (hts (.fieldLink RX3 27 "RenameRows" "ring" "LRenameRows$Ring;") (by decide +kernel)) (fun _ h9 => h9) rfl dX3_row_1 ?_
  refine lv_iload_n hx hb dX3_row_4 rfl (lv_at hl 1 rfl) ?_
  refine W.callR (W.runV (As := [.int y]) (rest := []) ⟨hx, hb, hml, hown, hts⟩ (c_X2_isPlace l dC dI cs a n f y hB) (cwV 1 hts gX3_row_X2_isPlace rfl rfl rfl (by decide +kernel) ⟨Nat.le_of_ble_eq_true rfl, Nat.le_of_ble_eq_true rfl⟩) (rd_preV (q := (RX2, TX2, 10)) hP hK 2 rfl rfl) rfl rfl hl.1 rfl (lv_room (Nat.le_of_ble_eq_true rfl)) dX3_row_5 ⟨Nat.zero_le _, Nat.zero_le _⟩) ?_
  refine W.eq (g2 := F0 m 8 ls (.int (b2i (inB y (n 2))) :: [])) rfl ?_
  refine lv_if_ne (tgt := 21) hx hb dX3_row_8 (by decide) (fun c_1 => absurd (b2i_t c_1) (by rw [hbad]; decide)) (fun c_1 => ?_)
  have c_1 : inB y (n 2) = false := b2i_f c_1
  exact th_go hlt hx hb hown hlocks (by rw [hml]; exact hl.1) hno hTH.1 thA_m thA_f (hTH.2.2.2.1 (94, "no such place") (by decide)) hTH.2.2.2.2.1 hTH.2.2.2.2.2 dX3_row_11 dX3_row_14 dX3_row_15 dX3_row_17 dX3_row_20 (by decide) (by decide) (by decide) (by decide)

set_option maxHeartbeats 4000000 in
set_option maxRecDepth 100000 in
theorem t_X3_row_S (l : Launch) (hlt : l.stackTraces = false) (dC : Nat → ClassId) (dI : Nat → Nat → Nat) (cs : ClassId × ClassId) (a n : Nat → Nat) (f : Nat → Nat → Int32) (j : Nat) (z : Int32) (hbad : x_holds n (nI j) = false) (hB : x_bd n) (h1 : j < n 2)  : vx_Met l yX3_row wsX3_row ({ frames := 6, cells := 1, slots := 6, locals := 82 }) (thPc (dC, dI) vwCl (wX cs a n f) (tyl cs) [.ref (a 0), .int (nI j), .int z]) noQ (thX eS) 1 6 (fun _ => False) := by
  refine th_of (cc := cX3_row) (maxL := 3) (ret := (some .int)) (own := RX3) (by decide) rfl rfl (Nat.le_of_ble_eq_true rfl) ?_
  intro p e s m below meth c hx hb hr hml hts hown hlocks hP hK hTH hno ls hl
  have hl : lv_has ls 3 [(0, .ref (a 0)), (1, .int (nI j)), (2, .int z)] := hl
  have hinX3 : ∀ w ∈ wsX30, w ∈ wsX3_row := by decide +kernel
  obtain ⟨B1, B2, B3, B4, B5, B6, B7, B8, B9, B10, B11, B12, B13, B14, B15⟩ := id hB
  refine lv_aload_n hx hb dX3_row_0 rfl (lv_at hl 0 rfl) ?_
  refine va_get (D := (dC, dI)) (ci := 4) (v := .ref (a 2)) (C := RX3) (T := TX3) (N := 9) hx hb hts hinX3 hown hK hP 0 rfl rfl 1 (by decide) (hts (.fieldLink RX3 27 "RenameRows" "ring" "LRenameRows$Ring;") (by decide +kernel)) (fun _ h9 => h9) rfl dX3_row_1 ?_
  refine lv_iload_n hx hb dX3_row_4 rfl (lv_at hl 1 rfl) ?_
  refine W.callR (W.runV (As := [.int (nI j)]) (rest := []) ⟨hx, hb, hml, hown, hts⟩ (c_X2_isPlace l dC dI cs a n f (nI j) hB) (cwV 1 hts gX3_row_X2_isPlace rfl rfl rfl (by decide +kernel) ⟨Nat.le_of_ble_eq_true rfl, Nat.le_of_ble_eq_true rfl⟩) (rd_preV (q := (RX2, TX2, 10)) hP hK 2 rfl rfl) rfl rfl hl.1 rfl (lv_room (Nat.le_of_ble_eq_true rfl)) dX3_row_5 ⟨Nat.zero_le _, Nat.zero_le _⟩) ?_
  refine W.eq (g2 := F0 m 8 ls (.int (b2i (inB (nI j) (n 2))) :: [])) rfl ?_
  refine lv_if_ne (tgt := 21) hx hb dX3_row_8 (by decide) (fun c_1 => ?_) (fun c_1 => absurd (b2i_f c_1) (by rw [inB_nI (by omega) (by omega)]; simp; omega))
  have c_1 : inB (nI j) (n 2) = true := b2i_t c_1
  refine lv_aload_n hx hb dX3_row_21 rfl (lv_at hl 0 rfl) ?_
  refine va_get (D := (dC, dI)) (ci := 4) (v := .ref (a 2)) (C := RX3) (T := TX3) (N := 9) hx hb hts hinX3 hown hK hP 0 rfl rfl 1 (by decide) (hts (.fieldLink RX3 27 "RenameRows" "ring" "LRenameRows$Ring;") (by decide +kernel)) (fun _ h9 => h9) rfl dX3_row_22 ?_
  refine lv_iload_n hx hb dX3_row_25 rfl (lv_at hl 1 rfl) ?_
  refine W.callR (W.runV (As := [.int (nI j)]) (rest := []) ⟨hx, hb, hml, hown, hts⟩ (c_X2_holdsRow l dC dI cs a n f (nI j) hB) (cwV 1 hts gX3_row_X2_holdsRow rfl rfl rfl (by decide +kernel) ⟨Nat.le_of_ble_eq_true rfl, Nat.le_of_ble_eq_true rfl⟩) (rd_preV (q := (RX2, TX2, 10)) hP hK 2 rfl rfl) rfl rfl hl.1 rfl (lv_room (Nat.le_of_ble_eq_true rfl)) dX3_row_26 ⟨Nat.zero_le _, Nat.zero_le _⟩) ?_
  refine W.eq (g2 := F0 m 29 ls (.int (b2i (x_holds n (nI j))) :: [])) rfl ?_
  refine lv_if_ne (tgt := 42) hx hb dX3_row_29 (by decide) (fun c_2 => absurd (b2i_t c_2) (by rw [hbad]; decide)) (fun c_2 => ?_)
  have c_2 : x_holds n (nI j) = false := b2i_f c_2
  exact th_go hlt hx hb hown hlocks (by rw [hml]; exact hl.1) hno hTH.2.1 thS_m thS_f (hTH.2.2.2.1 (201, "no row is there") (by decide)) hTH.2.2.2.2.1 hTH.2.2.2.2.2 dX3_row_32 dX3_row_35 dX3_row_36 dX3_row_38 dX3_row_41 (by decide) (by decide) (by decide) (by decide)

set_option maxHeartbeats 4000000 in
set_option maxRecDepth 100000 in
theorem t_X3_row_G (l : Launch) (hlt : l.stackTraces = false) (dC : Nat → ClassId) (dI : Nat → Nat → Nat) (cs : ClassId × ClassId) (a n : Nat → Nat) (f : Nat → Nat → Int32) (j : Nat) (z : Int32) (v1 : x_holds n (nI j) = true) (hbad : z.toInt < 0 ∨ 6 < z.toInt) (hB : x_bd n) (h1 : j < n 2)  : vx_Met l yX3_row wsX3_row ({ frames := 6, cells := 1, slots := 6, locals := 82 }) (thPc (dC, dI) vwCl (wX cs a n f) (tyl cs) [.ref (a 0), .int (nI j), .int z]) noQ (thX eG) 1 6 (fun _ => False) := by
  refine th_of (cc := cX3_row) (maxL := 3) (ret := (some .int)) (own := RX3) (by decide) rfl rfl (Nat.le_of_ble_eq_true rfl) ?_
  intro p e s m below meth c hx hb hr hml hts hown hlocks hP hK hTH hno ls hl
  have hl : lv_has ls 3 [(0, .ref (a 0)), (1, .int (nI j)), (2, .int z)] := hl
  have hinX3 : ∀ w ∈ wsX30, w ∈ wsX3_row := by decide +kernel
  obtain ⟨B1, B2, B3, B4, B5, B6, B7, B8, B9, B10, B11, B12, B13, B14, B15⟩ := id hB
  refine lv_aload_n hx hb dX3_row_0 rfl (lv_at hl 0 rfl) ?_
  refine va_get (D := (dC, dI)) (ci := 4) (v := .ref (a 2)) (C := RX3) (T := TX3) (N := 9) hx hb hts hinX3 hown hK hP 0 rfl rfl 1 (by decide) (hts (.fieldLink RX3 27 "RenameRows" "ring" "LRenameRows$Ring;") (by decide +kernel)) (fun _ h9 => h9) rfl dX3_row_1 ?_
  refine lv_iload_n hx hb dX3_row_4 rfl (lv_at hl 1 rfl) ?_
  refine W.callR (W.runV (As := [.int (nI j)]) (rest := []) ⟨hx, hb, hml, hown, hts⟩ (c_X2_isPlace l dC dI cs a n f (nI j) hB) (cwV 1 hts gX3_row_X2_isPlace rfl rfl rfl (by decide +kernel) ⟨Nat.le_of_ble_eq_true rfl, Nat.le_of_ble_eq_true rfl⟩) (rd_preV (q := (RX2, TX2, 10)) hP hK 2 rfl rfl) rfl rfl hl.1 rfl (lv_room (Nat.le_of_ble_eq_true rfl)) dX3_row_5 ⟨Nat.zero_le _, Nat.zero_le _⟩) ?_
  refine W.eq (g2 := F0 m 8 ls (.int (b2i (inB (nI j) (n 2))) :: [])) rfl ?_
  refine lv_if_ne (tgt := 21) hx hb dX3_row_8 (by decide) (fun c_1 => ?_) (fun c_1 => absurd (b2i_f c_1) (by rw [inB_nI (by omega) (by omega)]; simp; omega))
  have c_1 : inB (nI j) (n 2) = true := b2i_t c_1
  refine lv_aload_n hx hb dX3_row_21 rfl (lv_at hl 0 rfl) ?_
  refine va_get (D := (dC, dI)) (ci := 4) (v := .ref (a 2)) (C := RX3) (T := TX3) (N := 9) hx hb hts hinX3 hown hK hP 0 rfl rfl 1 (by decide) (hts (.fieldLink RX3 27 "RenameRows" "ring" "LRenameRows$Ring;") (by decide +kernel)) (fun _ h9 => h9) rfl dX3_row_22 ?_
  refine lv_iload_n hx hb dX3_row_25 rfl (lv_at hl 1 rfl) ?_
  refine W.callR (W.runV (As := [.int (nI j)]) (rest := []) ⟨hx, hb, hml, hown, hts⟩ (c_X2_holdsRow l dC dI cs a n f (nI j) hB) (cwV 1 hts gX3_row_X2_holdsRow rfl rfl rfl (by decide +kernel) ⟨Nat.le_of_ble_eq_true rfl, Nat.le_of_ble_eq_true rfl⟩) (rd_preV (q := (RX2, TX2, 10)) hP hK 2 rfl rfl) rfl rfl hl.1 rfl (lv_room (Nat.le_of_ble_eq_true rfl)) dX3_row_26 ⟨Nat.zero_le _, Nat.zero_le _⟩) ?_
  refine W.eq (g2 := F0 m 29 ls (.int (b2i (x_holds n (nI j))) :: [])) rfl ?_
  refine lv_if_ne (tgt := 42) hx hb dX3_row_29 (by decide) (fun c_2 => ?_) (fun c_2 => absurd (b2i_f c_2) (by rw [v1]; decide))
  have c_2 : x_holds n (nI j) = true := b2i_t c_2
  refine lv_iload_n hx hb dX3_row_42 rfl (lv_at hl 2 rfl) ?_
  refine lv_tableOut (tgt := 147) hx hb dX3_row_43 hbad (by decide) ?_
  exact th_go hlt hx hb hown hlocks (by rw [hml]; exact hl.1) hno hTH.2.2.1 thG_m thG_f (hTH.2.2.2.1 (218, "no such what") (by decide)) hTH.2.2.2.2.1 hTH.2.2.2.2.2 dX3_row_147 dX3_row_150 dX3_row_151 dX3_row_153 dX3_row_156 (by decide) (by decide) (by decide) (by decide)
