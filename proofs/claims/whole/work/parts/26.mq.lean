theorem le7 {x : Int32} (h : x ≤ nI 7) : ¬ nI 8 ≤ x := by
  rw [Int32.le_iff_toInt_le] at h ⊢
  have h7 : (nI 7).toInt = 7 := by decide
  have h8 : (nI 8).toInt = 8 := by decide
  omega
theorem gt7 {x : Int32} (h : ¬ x ≤ nI 7) : nI 8 ≤ x := by
  rw [Int32.le_iff_toInt_le] at h ⊢
  have h7 : (nI 7).toInt = 7 := by decide
  have h8 : (nI 8).toInt = 8 := by decide
  omega

set_option maxHeartbeats 4000000 in
set_option maxRecDepth 100000 in
theorem c_X4_name_x (l : Launch) (dC : Nat → ClassId) (dI : Nat → Nat → Nat) (cs : ClassId × ClassId) (b g : Nat → Nat) (h : Nat → Nat → Int32) (sz : Nat) (y : Int32) (hbad : inB y (g 1) = false) (hB : m_bd g)  : Met l yX4_name wsX4_name ({ frames := 1, cells := 0, slots := 0, locals := 23 }) (wrPc (dC, dI) vwCl (wM cs b g h) (tyl cs) sz [.ref (b 0), .int y]) (wrQ (dC, dI) vwCl (wM cs b (un g 0 1) h) (some (.int (nI 0))) (va_A (wM cs b g h) sz)) 0 0 (va_A (wM cs b g h) sz) := by
  refine wr_of (cc := cX4_name) (maxL := 2) (ret := (some .int)) (own := RX4) (by decide) rfl rfl (Nat.le_of_ble_eq_true rfl) ?_
  intro p e s m below meth c A hsz hAe hx hb hr hml hts hown hlocks hP hK hD hA hS ls hl
  have hl : lv_has ls 2 [(0, .ref (b 0)), (1, .int y)] := hl
  obtain ⟨M1, M2, M3, M4, M5, M6, M7, M8, M9, M10, M11, M12, M13, M14, M15, M16⟩ := id hB
  refine lv_aload_n hx hb dX4_name_0 rfl (lv_at hl 0 rfl) ?_
  refine lv_aload_n hx hb dX4_name_1 rfl (lv_at hl 0 rfl) ?_
  refine lv_iload_n hx hb dX4_name_2 rfl (lv_at hl 1 rfl) ?_
  refine W.callR (W.runV (As := [.int y]) (rest := [.ref (b 0)]) ⟨hx, hb, hml, hown, hts⟩ (c_X4_isRegister l dC dI cs b g h y hB) (cwV 1 hts gX4_name_X4_isRegister rfl rfl rfl (by decide +kernel) ⟨Nat.le_of_ble_eq_true rfl, Nat.le_of_ble_eq_true rfl⟩) (rd_preV (q := (RX4, TX4, 29)) hP hK 0 rfl rfl) rfl rfl hl.1 rfl (lv_room (Nat.le_of_ble_eq_true rfl)) dX4_name_3 ⟨Nat.zero_le _, Nat.zero_le _⟩) ?_
  refine W.eq (g2 := F0 m 6 ls (.int (b2i (inB y (g 1))) :: [.ref (b 0)])) rfl ?_
  refine lv_if_ne (tgt := 13) hx hb dX4_name_6 (by decide) (fun c_1 => absurd (b2i_t c_1) (by rw [hbad]; decide)) (fun c_1 => ?_)
  have c_1 : inB y (g 1) = false := b2i_f c_1
  refine lv_iconst (v := nI 1) hx hb dX4_name_9 (by decide) ?_
  refine lv_goto (tgt := 14) hx hb dX4_name_10 (by decide) ?_
  refine lv_iconst (v := nI 0) hx hb dX4_name_14 (by decide) ?_
  refine lv_iconst (v := nI 0) hx hb dX4_name_15 (by decide) ?_
  refine wr_calli (va_runV (As := [.int (nI 1), .int (nI 0), .int (nI 0)]) (rest := []) ⟨hx, hb, hml, hown, hts⟩ (c_X4_throwing l dC dI cs b g h s.heap.size 1 0 0 hB (by decide) (by decide) (by decide)) (cwV 3 hts gX4_name_X4_throwing rfl rfl rfl (by decide +kernel) ⟨Nat.le_of_ble_eq_true rfl, Nat.le_of_ble_eq_true rfl⟩) (wr_preV (q := (RX4, TX4, 29)) hP hK hD 0 rfl rfl) rfl rfl hl.1 rfl (lv_room (Nat.le_of_ble_eq_true rfl)) dX4_name_16 ⟨Nat.zero_le _, Nat.zero_le _⟩) hS hD hA rfl (fun H locs hP hD hS => ?_)
  have hP : va_P (dC, dI) vwCl (wM cs b (un g 0 1) h) H := hP
  have hD : va_D A (wM cs b (un g 0 1) h) := hD
  refine W.eq (g2 := F0 m 19 ls (.int (nI 1) :: [])) rfl ?_
  have hB : m_bd (un g 0 1) := by (unfold m_bd un; simp; omega)
  refine lv_if_eq (tgt := 26) hx hb dX4_name_19 (by decide) (fun c => absurd c (by decide)) (fun _ => ?_)
  refine lv_iconst (v := nI 0) hx hb dX4_name_22 (by decide) ?_
  refine lv_goto (tgt := 32) hx hb dX4_name_23 (by decide) ?_
  exact wr_iret hx hb hr hlocks hP hS dX4_name_32

set_option maxHeartbeats 4000000 in
set_option maxRecDepth 100000 in
theorem c_X4_name_v (l : Launch) (dC : Nat → ClassId) (dI : Nat → Nat → Nat) (cs : ClassId × ClassId) (b g : Nat → Nat) (h : Nat → Nat → Int32) (sz : Nat) (j : Nat) (hB : m_bd g) (h1 : j < g 1)  : Met l yX4_name wsX4_name ({ frames := 1, cells := 0, slots := 0, locals := 23 }) (wrPc (dC, dI) vwCl (wM cs b g h) (tyl cs) sz [.ref (b 0), .int (nI j)]) (wrQ (dC, dI) vwCl (wM cs b (un g 0 0) h) (some (.int (h 4 j))) (va_A (wM cs b g h) sz)) 0 0 (va_A (wM cs b g h) sz) := by
  refine wr_of (cc := cX4_name) (maxL := 2) (ret := (some .int)) (own := RX4) (by decide) rfl rfl (Nat.le_of_ble_eq_true rfl) ?_
  intro p e s m below meth c A hsz hAe hx hb hr hml hts hown hlocks hP hK hD hA hS ls hl
  have hl : lv_has ls 2 [(0, .ref (b 0)), (1, .int (nI j))] := hl
  have hinX4 : ∀ w ∈ wsX40, w ∈ wsX4_name := by decide +kernel
  obtain ⟨M1, M2, M3, M4, M5, M6, M7, M8, M9, M10, M11, M12, M13, M14, M15, M16⟩ := id hB
  refine lv_aload_n hx hb dX4_name_0 rfl (lv_at hl 0 rfl) ?_
  refine lv_aload_n hx hb dX4_name_1 rfl (lv_at hl 0 rfl) ?_
  refine lv_iload_n hx hb dX4_name_2 rfl (lv_at hl 1 rfl) ?_
  refine W.callR (W.runV (As := [.int (nI j)]) (rest := [.ref (b 0)]) ⟨hx, hb, hml, hown, hts⟩ (c_X4_isRegister l dC dI cs b g h (nI j) hB) (cwV 1 hts gX4_name_X4_isRegister rfl rfl rfl (by decide +kernel) ⟨Nat.le_of_ble_eq_true rfl, Nat.le_of_ble_eq_true rfl⟩) (rd_preV (q := (RX4, TX4, 29)) hP hK 0 rfl rfl) rfl rfl hl.1 rfl (lv_room (Nat.le_of_ble_eq_true rfl)) dX4_name_3 ⟨Nat.zero_le _, Nat.zero_le _⟩) ?_
  refine W.eq (g2 := F0 m 6 ls (.int (b2i (inB (nI j) (g 1))) :: [.ref (b 0)])) rfl ?_
  refine lv_if_ne (tgt := 13) hx hb dX4_name_6 (by decide) (fun c_1 => ?_) (fun c_1 => absurd (b2i_f c_1) (by rw [inB_nI (by omega) (by omega)]; simp; omega))
  have c_1 : inB (nI j) (g 1) = true := b2i_t c_1
  refine lv_iconst (v := nI 0) hx hb dX4_name_13 (by decide) ?_
  refine lv_iconst (v := nI 0) hx hb dX4_name_14 (by decide) ?_
  refine lv_iconst (v := nI 0) hx hb dX4_name_15 (by decide) ?_
  refine wr_calli (va_runV (As := [.int (nI 0), .int (nI 0), .int (nI 0)]) (rest := []) ⟨hx, hb, hml, hown, hts⟩ (c_X4_throwing l dC dI cs b g h s.heap.size 0 0 0 hB (by decide) (by decide) (by decide)) (cwV 3 hts gX4_name_X4_throwing rfl rfl rfl (by decide +kernel) ⟨Nat.le_of_ble_eq_true rfl, Nat.le_of_ble_eq_true rfl⟩) (wr_preV (q := (RX4, TX4, 29)) hP hK hD 0 rfl rfl) rfl rfl hl.1 rfl (lv_room (Nat.le_of_ble_eq_true rfl)) dX4_name_16 ⟨Nat.zero_le _, Nat.zero_le _⟩) hS hD hA rfl (fun H locs hP hD hS => ?_)
  have hP : va_P (dC, dI) vwCl (wM cs b (un g 0 0) h) H := hP
  have hD : va_D A (wM cs b (un g 0 0) h) := hD
  refine W.eq (g2 := F0 m 19 ls (.int (nI 0) :: [])) rfl ?_
  have hB : m_bd (un g 0 0) := by (unfold m_bd un; simp; omega)
  refine lv_if_eq (tgt := 26) hx hb dX4_name_19 (by decide) (fun _ => ?_) (fun c => absurd (by decide) c)
  refine lv_aload_n hx hb dX4_name_26 rfl (lv_at hl 0 rfl) ?_
  refine va_get (D := (dC, dI)) (ci := 5) (v := .ref (b 4)) (C := RX4) (T := TX4) (N := 29) hx hb hts hinX4 hown hK hP 0 rfl rfl 4 (by decide) (hts (.fieldLink RX4 7 "RenameRowsModel" "name" "[I") (by decide +kernel)) (fun _ h9 => h9) rfl dX4_name_27 ?_
  refine lv_iload_n hx hb dX4_name_30 rfl (lv_at hl 1 rfl) ?_
  refine ar_ld (D := (dC, dI)) (n := 32) (f := h 4) hx hb hK hP 1 0 rfl rfl (by omega) (by omega) dX4_name_31 ?_
  exact wr_iret hx hb hr hlocks hP hS dX4_name_32

set_option maxHeartbeats 4000000 in
set_option maxRecDepth 100000 in
theorem c_X4_sure_x (l : Launch) (dC : Nat → ClassId) (dI : Nat → Nat → Nat) (cs : ClassId × ClassId) (b g : Nat → Nat) (h : Nat → Nat → Int32) (sz : Nat) (y : Int32) (hbad : inB y (g 1) = false) (hB : m_bd g)  : Met l yX4_sure wsX4_sure ({ frames := 1, cells := 0, slots := 0, locals := 23 }) (wrPc (dC, dI) vwCl (wM cs b g h) (tyl cs) sz [.ref (b 0), .int y]) (wrQ (dC, dI) vwCl (wM cs b (un g 0 1) h) (some (.int (nI 0))) (va_A (wM cs b g h) sz)) 0 0 (va_A (wM cs b g h) sz) := by
  refine wr_of (cc := cX4_sure) (maxL := 2) (ret := (some .int)) (own := RX4) (by decide) rfl rfl (Nat.le_of_ble_eq_true rfl) ?_
  intro p e s m below meth c A hsz hAe hx hb hr hml hts hown hlocks hP hK hD hA hS ls hl
  have hl : lv_has ls 2 [(0, .ref (b 0)), (1, .int y)] := hl
  obtain ⟨M1, M2, M3, M4, M5, M6, M7, M8, M9, M10, M11, M12, M13, M14, M15, M16⟩ := id hB
  refine lv_aload_n hx hb dX4_sure_0 rfl (lv_at hl 0 rfl) ?_
  refine lv_aload_n hx hb dX4_sure_1 rfl (lv_at hl 0 rfl) ?_
  refine lv_iload_n hx hb dX4_sure_2 rfl (lv_at hl 1 rfl) ?_
  refine W.callR (W.runV (As := [.int y]) (rest := [.ref (b 0)]) ⟨hx, hb, hml, hown, hts⟩ (c_X4_isRegister l dC dI cs b g h y hB) (cwV 1 hts gX4_sure_X4_isRegister rfl rfl rfl (by decide +kernel) ⟨Nat.le_of_ble_eq_true rfl, Nat.le_of_ble_eq_true rfl⟩) (rd_preV (q := (RX4, TX4, 29)) hP hK 0 rfl rfl) rfl rfl hl.1 rfl (lv_room (Nat.le_of_ble_eq_true rfl)) dX4_sure_3 ⟨Nat.zero_le _, Nat.zero_le _⟩) ?_
  refine W.eq (g2 := F0 m 6 ls (.int (b2i (inB y (g 1))) :: [.ref (b 0)])) rfl ?_
  refine lv_if_ne (tgt := 13) hx hb dX4_sure_6 (by decide) (fun c_1 => absurd (b2i_t c_1) (by rw [hbad]; decide)) (fun c_1 => ?_)
  have c_1 : inB y (g 1) = false := b2i_f c_1
  refine lv_iconst (v := nI 1) hx hb dX4_sure_9 (by decide) ?_
  refine lv_goto (tgt := 14) hx hb dX4_sure_10 (by decide) ?_
  refine lv_iconst (v := nI 0) hx hb dX4_sure_14 (by decide) ?_
  refine lv_iconst (v := nI 0) hx hb dX4_sure_15 (by decide) ?_
  refine wr_calli (va_runV (As := [.int (nI 1), .int (nI 0), .int (nI 0)]) (rest := []) ⟨hx, hb, hml, hown, hts⟩ (c_X4_throwing l dC dI cs b g h s.heap.size 1 0 0 hB (by decide) (by decide) (by decide)) (cwV 3 hts gX4_sure_X4_throwing rfl rfl rfl (by decide +kernel) ⟨Nat.le_of_ble_eq_true rfl, Nat.le_of_ble_eq_true rfl⟩) (wr_preV (q := (RX4, TX4, 29)) hP hK hD 0 rfl rfl) rfl rfl hl.1 rfl (lv_room (Nat.le_of_ble_eq_true rfl)) dX4_sure_16 ⟨Nat.zero_le _, Nat.zero_le _⟩) hS hD hA rfl (fun H locs hP hD hS => ?_)
  have hP : va_P (dC, dI) vwCl (wM cs b (un g 0 1) h) H := hP
  have hD : va_D A (wM cs b (un g 0 1) h) := hD
  refine W.eq (g2 := F0 m 19 ls (.int (nI 1) :: [])) rfl ?_
  have hB : m_bd (un g 0 1) := by (unfold m_bd un; simp; omega)
  refine lv_if_eq (tgt := 26) hx hb dX4_sure_19 (by decide) (fun c => absurd c (by decide)) (fun _ => ?_)
  refine lv_iconst (v := nI 0) hx hb dX4_sure_22 (by decide) ?_
  refine lv_goto (tgt := 32) hx hb dX4_sure_23 (by decide) ?_
  exact wr_iret hx hb hr hlocks hP hS dX4_sure_32

set_option maxHeartbeats 4000000 in
set_option maxRecDepth 100000 in
theorem c_X4_sure_v (l : Launch) (dC : Nat → ClassId) (dI : Nat → Nat → Nat) (cs : ClassId × ClassId) (b g : Nat → Nat) (h : Nat → Nat → Int32) (sz : Nat) (j : Nat) (hB : m_bd g) (h1 : j < g 1)  : Met l yX4_sure wsX4_sure ({ frames := 1, cells := 0, slots := 0, locals := 23 }) (wrPc (dC, dI) vwCl (wM cs b g h) (tyl cs) sz [.ref (b 0), .int (nI j)]) (wrQ (dC, dI) vwCl (wM cs b (un g 0 0) h) (some (.int (h 5 j))) (va_A (wM cs b g h) sz)) 0 0 (va_A (wM cs b g h) sz) := by
  refine wr_of (cc := cX4_sure) (maxL := 2) (ret := (some .int)) (own := RX4) (by decide) rfl rfl (Nat.le_of_ble_eq_true rfl) ?_
  intro p e s m below meth c A hsz hAe hx hb hr hml hts hown hlocks hP hK hD hA hS ls hl
  have hl : lv_has ls 2 [(0, .ref (b 0)), (1, .int (nI j))] := hl
  have hinX4 : ∀ w ∈ wsX40, w ∈ wsX4_sure := by decide +kernel
  obtain ⟨M1, M2, M3, M4, M5, M6, M7, M8, M9, M10, M11, M12, M13, M14, M15, M16⟩ := id hB
  refine lv_aload_n hx hb dX4_sure_0 rfl (lv_at hl 0 rfl) ?_
  refine lv_aload_n hx hb dX4_sure_1 rfl (lv_at hl 0 rfl) ?_
  refine lv_iload_n hx hb dX4_sure_2 rfl (lv_at hl 1 rfl) ?_
  refine W.callR (W.runV (As := [.int (nI j)]) (rest := [.ref (b 0)]) ⟨hx, hb, hml, hown, hts⟩ (c_X4_isRegister l dC dI cs b g h (nI j) hB) (cwV 1 hts gX4_sure_X4_isRegister rfl rfl rfl (by decide +kernel) ⟨Nat.le_of_ble_eq_true rfl, Nat.le_of_ble_eq_true rfl⟩) (rd_preV (q := (RX4, TX4, 29)) hP hK 0 rfl rfl) rfl rfl hl.1 rfl (lv_room (Nat.le_of_ble_eq_true rfl)) dX4_sure_3 ⟨Nat.zero_le _, Nat.zero_le _⟩) ?_
  refine W.eq (g2 := F0 m 6 ls (.int (b2i (inB (nI j) (g 1))) :: [.ref (b 0)])) rfl ?_
  refine lv_if_ne (tgt := 13) hx hb dX4_sure_6 (by decide) (fun c_1 => ?_) (fun c_1 => absurd (b2i_f c_1) (by rw [inB_nI (by omega) (by omega)]; simp; omega))
  have c_1 : inB (nI j) (g 1) = true := b2i_t c_1
  refine lv_iconst (v := nI 0) hx hb dX4_sure_13 (by decide) ?_
  refine lv_iconst (v := nI 0) hx hb dX4_sure_14 (by decide) ?_
  refine lv_iconst (v := nI 0) hx hb dX4_sure_15 (by decide) ?_
  refine wr_calli (va_runV (As := [.int (nI 0), .int (nI 0), .int (nI 0)]) (rest := []) ⟨hx, hb, hml, hown, hts⟩ (c_X4_throwing l dC dI cs b g h s.heap.size 0 0 0 hB (by decide) (by decide) (by decide)) (cwV 3 hts gX4_sure_X4_throwing rfl rfl rfl (by decide +kernel) ⟨Nat.le_of_ble_eq_true rfl, Nat.le_of_ble_eq_true rfl⟩) (wr_preV (q := (RX4, TX4, 29)) hP hK hD 0 rfl rfl) rfl rfl hl.1 rfl (lv_room (Nat.le_of_ble_eq_true rfl)) dX4_sure_16 ⟨Nat.zero_le _, Nat.zero_le _⟩) hS hD hA rfl (fun H locs hP hD hS => ?_)
  have hP : va_P (dC, dI) vwCl (wM cs b (un g 0 0) h) H := hP
  have hD : va_D A (wM cs b (un g 0 0) h) := hD
  refine W.eq (g2 := F0 m 19 ls (.int (nI 0) :: [])) rfl ?_
  have hB : m_bd (un g 0 0) := by (unfold m_bd un; simp; omega)
  refine lv_if_eq (tgt := 26) hx hb dX4_sure_19 (by decide) (fun _ => ?_) (fun c => absurd (by decide) c)
  refine lv_aload_n hx hb dX4_sure_26 rfl (lv_at hl 0 rfl) ?_
  refine va_get (D := (dC, dI)) (ci := 5) (v := .ref (b 5)) (C := RX4) (T := TX4) (N := 29) hx hb hts hinX4 hown hK hP 0 rfl rfl 5 (by decide) (hts (.fieldLink RX4 13 "RenameRowsModel" "sure" "[I") (by decide +kernel)) (fun _ h9 => h9) rfl dX4_sure_27 ?_
  refine lv_iload_n hx hb dX4_sure_30 rfl (lv_at hl 1 rfl) ?_
  refine ar_ld (D := (dC, dI)) (n := 32) (f := h 5) hx hb hK hP 2 0 rfl rfl (by omega) (by omega) dX4_sure_31 ?_
  exact wr_iret hx hb hr hlocks hP hS dX4_sure_32

set_option maxHeartbeats 4000000 in
set_option maxRecDepth 100000 in
theorem c_X4_shares_x (l : Launch) (dC : Nat → ClassId) (dI : Nat → Nat → Nat) (cs : ClassId × ClassId) (b g : Nat → Nat) (h : Nat → Nat → Int32) (sz : Nat) (y : Int32) (hbad : inB y (g 2) = false) (hB : m_bd g)  : Met l yX4_shares wsX4_shares ({ frames := 1, cells := 0, slots := 0, locals := 23 }) (wrPc (dC, dI) vwCl (wM cs b g h) (tyl cs) sz [.ref (b 0), .int y]) (wrQ (dC, dI) vwCl (wM cs b (un g 0 1) h) (some (.int (nI 0))) (va_A (wM cs b g h) sz)) 0 0 (va_A (wM cs b g h) sz) := by
  refine wr_of (cc := cX4_shares) (maxL := 2) (ret := (some .int)) (own := RX4) (by decide) rfl rfl (Nat.le_of_ble_eq_true rfl) ?_
  intro p e s m below meth c A hsz hAe hx hb hr hml hts hown hlocks hP hK hD hA hS ls hl
  have hl : lv_has ls 2 [(0, .ref (b 0)), (1, .int y)] := hl
  have hinX4 : ∀ w ∈ wsX40, w ∈ wsX4_shares := by decide +kernel
  obtain ⟨M1, M2, M3, M4, M5, M6, M7, M8, M9, M10, M11, M12, M13, M14, M15, M16⟩ := id hB
  refine lv_aload_n hx hb dX4_shares_0 rfl (lv_at hl 0 rfl) ?_
  refine lv_iload_n hx hb dX4_shares_1 rfl (lv_at hl 1 rfl) ?_
  refine lv_if_lt (tgt := 13) hx hb dX4_shares_2 (by decide) (fun c_1 => ?_) (fun c_1 => ?_)
  · refine lv_iconst (v := nI 1) hx hb dX4_shares_13 (by decide) ?_
    refine lv_goto (tgt := 18) hx hb dX4_shares_14 (by decide) ?_
    refine lv_iconst (v := nI 0) hx hb dX4_shares_18 (by decide) ?_
    refine lv_iconst (v := nI 0) hx hb dX4_shares_19 (by decide) ?_
    refine wr_calli (va_runV (As := [.int (nI 1), .int (nI 0), .int (nI 0)]) (rest := []) ⟨hx, hb, hml, hown, hts⟩ (c_X4_throwing l dC dI cs b g h s.heap.size 1 0 0 hB (by decide) (by decide) (by decide)) (cwV 3 hts gX4_shares_X4_throwing rfl rfl rfl (by decide +kernel) ⟨Nat.le_of_ble_eq_true rfl, Nat.le_of_ble_eq_true rfl⟩) (wr_preV (q := (RX4, TX4, 29)) hP hK hD 0 rfl rfl) rfl rfl hl.1 rfl (lv_room (Nat.le_of_ble_eq_true rfl)) dX4_shares_20 ⟨Nat.zero_le _, Nat.zero_le _⟩) hS hD hA rfl (fun H locs hP hD hS => ?_)
    have hP : va_P (dC, dI) vwCl (wM cs b (un g 0 1) h) H := hP
    have hD : va_D A (wM cs b (un g 0 1) h) := hD
    refine W.eq (g2 := F0 m 23 ls (.int (nI 1) :: [])) rfl ?_
    have hB : m_bd (un g 0 1) := by (unfold m_bd un; simp; omega)
    refine lv_if_eq (tgt := 30) hx hb dX4_shares_23 (by decide) (fun c => absurd c (by decide)) (fun _ => ?_)
    refine lv_iconst (v := nI 0) hx hb dX4_shares_26 (by decide) ?_
    refine lv_goto (tgt := 36) hx hb dX4_shares_27 (by decide) ?_
    exact wr_iret hx hb hr hlocks hP hS dX4_shares_36
  · refine lv_iload_n hx hb dX4_shares_5 rfl (lv_at hl 1 rfl) ?_
    refine lv_aload_n hx hb dX4_shares_6 rfl (lv_at hl 0 rfl) ?_
    refine va_get (D := (dC, dI)) (ci := 5) (v := .int (nI (g 2))) (C := RX4) (T := TX4) (N := 29) hx hb hts hinX4 hown hK hP 0 rfl rfl 2 (by decide) (hts (.fieldLink RX4 67 "RenameRowsModel" "names" "I") (by decide +kernel)) (fun _ h9 => h9) rfl dX4_shares_7 ?_
    refine lv_icmp_lt (tgt := 17) hx hb dX4_shares_10 (by decide) (fun c_3 => ?_) (fun c_3 => ?_)
    · have q9 := inB_in c_1 (fun q => absurd c_3 (nl32 q)); rw [hbad] at q9; cases q9
    · refine lv_iconst (v := nI 1) hx hb dX4_shares_13 (by decide) ?_
      refine lv_goto (tgt := 18) hx hb dX4_shares_14 (by decide) ?_
      refine lv_iconst (v := nI 0) hx hb dX4_shares_18 (by decide) ?_
      refine lv_iconst (v := nI 0) hx hb dX4_shares_19 (by decide) ?_
      refine wr_calli (va_runV (As := [.int (nI 1), .int (nI 0), .int (nI 0)]) (rest := []) ⟨hx, hb, hml, hown, hts⟩ (c_X4_throwing l dC dI cs b g h s.heap.size 1 0 0 hB (by decide) (by decide) (by decide)) (cwV 3 hts gX4_shares_X4_throwing rfl rfl rfl (by decide +kernel) ⟨Nat.le_of_ble_eq_true rfl, Nat.le_of_ble_eq_true rfl⟩) (wr_preV (q := (RX4, TX4, 29)) hP hK hD 0 rfl rfl) rfl rfl hl.1 rfl (lv_room (Nat.le_of_ble_eq_true rfl)) dX4_shares_20 ⟨Nat.zero_le _, Nat.zero_le _⟩) hS hD hA rfl (fun H locs hP hD hS => ?_)
      have hP : va_P (dC, dI) vwCl (wM cs b (un g 0 1) h) H := hP
      have hD : va_D A (wM cs b (un g 0 1) h) := hD
      refine W.eq (g2 := F0 m 23 ls (.int (nI 1) :: [])) rfl ?_
      have hB : m_bd (un g 0 1) := by (unfold m_bd un; simp; omega)
      refine lv_if_eq (tgt := 30) hx hb dX4_shares_23 (by decide) (fun c => absurd c (by decide)) (fun _ => ?_)
      refine lv_iconst (v := nI 0) hx hb dX4_shares_26 (by decide) ?_
      refine lv_goto (tgt := 36) hx hb dX4_shares_27 (by decide) ?_
      exact wr_iret hx hb hr hlocks hP hS dX4_shares_36

set_option maxHeartbeats 4000000 in
set_option maxRecDepth 100000 in
theorem c_X4_shares_v (l : Launch) (dC : Nat → ClassId) (dI : Nat → Nat → Nat) (cs : ClassId × ClassId) (b g : Nat → Nat) (h : Nat → Nat → Int32) (sz : Nat) (j : Nat) (hB : m_bd g) (h1 : j < g 2)  : Met l yX4_shares wsX4_shares ({ frames := 1, cells := 0, slots := 0, locals := 23 }) (wrPc (dC, dI) vwCl (wM cs b g h) (tyl cs) sz [.ref (b 0), .int (nI j)]) (wrQ (dC, dI) vwCl (wM cs b (un g 0 0) h) (some (.int (h 6 j))) (va_A (wM cs b g h) sz)) 0 0 (va_A (wM cs b g h) sz) := by
  refine wr_of (cc := cX4_shares) (maxL := 2) (ret := (some .int)) (own := RX4) (by decide) rfl rfl (Nat.le_of_ble_eq_true rfl) ?_
  intro p e s m below meth c A hsz hAe hx hb hr hml hts hown hlocks hP hK hD hA hS ls hl
  have hl : lv_has ls 2 [(0, .ref (b 0)), (1, .int (nI j))] := hl
  have hinX4 : ∀ w ∈ wsX40, w ∈ wsX4_shares := by decide +kernel
  obtain ⟨M1, M2, M3, M4, M5, M6, M7, M8, M9, M10, M11, M12, M13, M14, M15, M16⟩ := id hB
  refine lv_aload_n hx hb dX4_shares_0 rfl (lv_at hl 0 rfl) ?_
  refine lv_iload_n hx hb dX4_shares_1 rfl (lv_at hl 1 rfl) ?_
  refine lv_if_lt (tgt := 13) hx hb dX4_shares_2 (by decide) (fun c => absurd c (nI_pos (by omega))) (fun _ => ?_)
  refine lv_iload_n hx hb dX4_shares_5 rfl (lv_at hl 1 rfl) ?_
  refine lv_aload_n hx hb dX4_shares_6 rfl (lv_at hl 0 rfl) ?_
  refine va_get (D := (dC, dI)) (ci := 5) (v := .int (nI (g 2))) (C := RX4) (T := TX4) (N := 29) hx hb hts hinX4 hown hK hP 0 rfl rfl 2 (by decide) (hts (.fieldLink RX4 67 "RenameRowsModel" "names" "I") (by decide +kernel)) (fun _ h9 => h9) rfl dX4_shares_7 ?_
  refine lv_icmp_lt (tgt := 17) hx hb dX4_shares_10 (by decide) (fun c_2 => ?_) (fun c_2 => absurd ((nI_ltI (by omega) (by omega)).mpr (by omega)) c_2)
  have c_2 : j < (g 2) := (nI_ltI (by omega) (by omega)).mp c_2
  refine lv_iconst (v := nI 0) hx hb dX4_shares_17 (by decide) ?_
  refine lv_iconst (v := nI 0) hx hb dX4_shares_18 (by decide) ?_
  refine lv_iconst (v := nI 0) hx hb dX4_shares_19 (by decide) ?_
  refine wr_calli (va_runV (As := [.int (nI 0), .int (nI 0), .int (nI 0)]) (rest := []) ⟨hx, hb, hml, hown, hts⟩ (c_X4_throwing l dC dI cs b g h s.heap.size 0 0 0 hB (by decide) (by decide) (by decide)) (cwV 3 hts gX4_shares_X4_throwing rfl rfl rfl (by decide +kernel) ⟨Nat.le_of_ble_eq_true rfl, Nat.le_of_ble_eq_true rfl⟩) (wr_preV (q := (RX4, TX4, 29)) hP hK hD 0 rfl rfl) rfl rfl hl.1 rfl (lv_room (Nat.le_of_ble_eq_true rfl)) dX4_shares_20 ⟨Nat.zero_le _, Nat.zero_le _⟩) hS hD hA rfl (fun H locs hP hD hS => ?_)
  have hP : va_P (dC, dI) vwCl (wM cs b (un g 0 0) h) H := hP
  have hD : va_D A (wM cs b (un g 0 0) h) := hD
  refine W.eq (g2 := F0 m 23 ls (.int (nI 0) :: [])) rfl ?_
  have hB : m_bd (un g 0 0) := by (unfold m_bd un; simp; omega)
  refine lv_if_eq (tgt := 30) hx hb dX4_shares_23 (by decide) (fun _ => ?_) (fun c => absurd (by decide) c)
  refine lv_aload_n hx hb dX4_shares_30 rfl (lv_at hl 0 rfl) ?_
  refine va_get (D := (dC, dI)) (ci := 5) (v := .ref (b 6)) (C := RX4) (T := TX4) (N := 29) hx hb hts hinX4 hown hK hP 0 rfl rfl 6 (by decide) (hts (.fieldLink RX4 16 "RenameRowsModel" "shares" "[I") (by decide +kernel)) (fun _ h9 => h9) rfl dX4_shares_31 ?_
  refine lv_iload_n hx hb dX4_shares_34 rfl (lv_at hl 1 rfl) ?_
  refine ar_ld (D := (dC, dI)) (n := 96) (f := h 6) hx hb hK hP 3 0 rfl rfl (by omega) (by omega) dX4_shares_35 ?_
  exact wr_iret hx hb hr hlocks hP hS dX4_shares_36

set_option maxHeartbeats 4000000 in
set_option maxRecDepth 100000 in
theorem c_X4_queue_x (l : Launch) (dC : Nat → ClassId) (dI : Nat → Nat → Nat) (cs : ClassId × ClassId) (b g : Nat → Nat) (h : Nat → Nat → Int32) (sz : Nat) (y : Int32) (hbad : inB y (g 9) = false) (hB : m_bd g)  : Met l yX4_queue wsX4_queue ({ frames := 1, cells := 0, slots := 0, locals := 23 }) (wrPc (dC, dI) vwCl (wM cs b g h) (tyl cs) sz [.ref (b 0), .int y]) (wrQ (dC, dI) vwCl (wM cs b (un g 0 1) h) (some (.int (nI 0))) (va_A (wM cs b g h) sz)) 0 0 (va_A (wM cs b g h) sz) := by
  refine wr_of (cc := cX4_queue) (maxL := 2) (ret := (some .int)) (own := RX4) (by decide) rfl rfl (Nat.le_of_ble_eq_true rfl) ?_
  intro p e s m below meth c A hsz hAe hx hb hr hml hts hown hlocks hP hK hD hA hS ls hl
  have hl : lv_has ls 2 [(0, .ref (b 0)), (1, .int y)] := hl
  have hinX4 : ∀ w ∈ wsX40, w ∈ wsX4_queue := by decide +kernel
  obtain ⟨M1, M2, M3, M4, M5, M6, M7, M8, M9, M10, M11, M12, M13, M14, M15, M16⟩ := id hB
  refine lv_aload_n hx hb dX4_queue_0 rfl (lv_at hl 0 rfl) ?_
  refine lv_iload_n hx hb dX4_queue_1 rfl (lv_at hl 1 rfl) ?_
  refine lv_if_lt (tgt := 13) hx hb dX4_queue_2 (by decide) (fun c_1 => ?_) (fun c_1 => ?_)
  · refine lv_iconst (v := nI 1) hx hb dX4_queue_13 (by decide) ?_
    refine lv_goto (tgt := 18) hx hb dX4_queue_14 (by decide) ?_
    refine lv_iconst (v := nI 0) hx hb dX4_queue_18 (by decide) ?_
    refine lv_iconst (v := nI 0) hx hb dX4_queue_19 (by decide) ?_
    refine wr_calli (va_runV (As := [.int (nI 1), .int (nI 0), .int (nI 0)]) (rest := []) ⟨hx, hb, hml, hown, hts⟩ (c_X4_throwing l dC dI cs b g h s.heap.size 1 0 0 hB (by decide) (by decide) (by decide)) (cwV 3 hts gX4_queue_X4_throwing rfl rfl rfl (by decide +kernel) ⟨Nat.le_of_ble_eq_true rfl, Nat.le_of_ble_eq_true rfl⟩) (wr_preV (q := (RX4, TX4, 29)) hP hK hD 0 rfl rfl) rfl rfl hl.1 rfl (lv_room (Nat.le_of_ble_eq_true rfl)) dX4_queue_20 ⟨Nat.zero_le _, Nat.zero_le _⟩) hS hD hA rfl (fun H locs hP hD hS => ?_)
    have hP : va_P (dC, dI) vwCl (wM cs b (un g 0 1) h) H := hP
    have hD : va_D A (wM cs b (un g 0 1) h) := hD
    refine W.eq (g2 := F0 m 23 ls (.int (nI 1) :: [])) rfl ?_
    have hB : m_bd (un g 0 1) := by (unfold m_bd un; simp; omega)
    refine lv_if_eq (tgt := 30) hx hb dX4_queue_23 (by decide) (fun c => absurd c (by decide)) (fun _ => ?_)
    refine lv_iconst (v := nI 0) hx hb dX4_queue_26 (by decide) ?_
    refine lv_goto (tgt := 36) hx hb dX4_queue_27 (by decide) ?_
    exact wr_iret hx hb hr hlocks hP hS dX4_queue_36
  · refine lv_iload_n hx hb dX4_queue_5 rfl (lv_at hl 1 rfl) ?_
    refine lv_aload_n hx hb dX4_queue_6 rfl (lv_at hl 0 rfl) ?_
    refine va_get (D := (dC, dI)) (ci := 5) (v := .int (nI (g 9))) (C := RX4) (T := TX4) (N := 29) hx hb hts hinX4 hown hK hP 0 rfl rfl 9 (by decide) (hts (.fieldLink RX4 73 "RenameRowsModel" "free" "I") (by decide +kernel)) (fun _ h9 => h9) rfl dX4_queue_7 ?_
    refine lv_icmp_lt (tgt := 17) hx hb dX4_queue_10 (by decide) (fun c_3 => ?_) (fun c_3 => ?_)
    · have q9 := inB_in c_1 (fun q => absurd c_3 (nl32 q)); rw [hbad] at q9; cases q9
    · refine lv_iconst (v := nI 1) hx hb dX4_queue_13 (by decide) ?_
      refine lv_goto (tgt := 18) hx hb dX4_queue_14 (by decide) ?_
      refine lv_iconst (v := nI 0) hx hb dX4_queue_18 (by decide) ?_
      refine lv_iconst (v := nI 0) hx hb dX4_queue_19 (by decide) ?_
      refine wr_calli (va_runV (As := [.int (nI 1), .int (nI 0), .int (nI 0)]) (rest := []) ⟨hx, hb, hml, hown, hts⟩ (c_X4_throwing l dC dI cs b g h s.heap.size 1 0 0 hB (by decide) (by decide) (by decide)) (cwV 3 hts gX4_queue_X4_throwing rfl rfl rfl (by decide +kernel) ⟨Nat.le_of_ble_eq_true rfl, Nat.le_of_ble_eq_true rfl⟩) (wr_preV (q := (RX4, TX4, 29)) hP hK hD 0 rfl rfl) rfl rfl hl.1 rfl (lv_room (Nat.le_of_ble_eq_true rfl)) dX4_queue_20 ⟨Nat.zero_le _, Nat.zero_le _⟩) hS hD hA rfl (fun H locs hP hD hS => ?_)
      have hP : va_P (dC, dI) vwCl (wM cs b (un g 0 1) h) H := hP
      have hD : va_D A (wM cs b (un g 0 1) h) := hD
      refine W.eq (g2 := F0 m 23 ls (.int (nI 1) :: [])) rfl ?_
      have hB : m_bd (un g 0 1) := by (unfold m_bd un; simp; omega)
      refine lv_if_eq (tgt := 30) hx hb dX4_queue_23 (by decide) (fun c => absurd c (by decide)) (fun _ => ?_)
      refine lv_iconst (v := nI 0) hx hb dX4_queue_26 (by decide) ?_
      refine lv_goto (tgt := 36) hx hb dX4_queue_27 (by decide) ?_
      exact wr_iret hx hb hr hlocks hP hS dX4_queue_36

set_option maxHeartbeats 4000000 in
set_option maxRecDepth 100000 in
theorem c_X4_queue_v (l : Launch) (dC : Nat → ClassId) (dI : Nat → Nat → Nat) (cs : ClassId × ClassId) (b g : Nat → Nat) (h : Nat → Nat → Int32) (sz : Nat) (j : Nat) (hB : m_bd g) (h1 : j < g 9)  : Met l yX4_queue wsX4_queue ({ frames := 1, cells := 0, slots := 0, locals := 23 }) (wrPc (dC, dI) vwCl (wM cs b g h) (tyl cs) sz [.ref (b 0), .int (nI j)]) (wrQ (dC, dI) vwCl (wM cs b (un g 0 0) h) (some (.int (h 8 j))) (va_A (wM cs b g h) sz)) 0 0 (va_A (wM cs b g h) sz) := by
  refine wr_of (cc := cX4_queue) (maxL := 2) (ret := (some .int)) (own := RX4) (by decide) rfl rfl (Nat.le_of_ble_eq_true rfl) ?_
  intro p e s m below meth c A hsz hAe hx hb hr hml hts hown hlocks hP hK hD hA hS ls hl
  have hl : lv_has ls 2 [(0, .ref (b 0)), (1, .int (nI j))] := hl
  have hinX4 : ∀ w ∈ wsX40, w ∈ wsX4_queue := by decide +kernel
  obtain ⟨M1, M2, M3, M4, M5, M6, M7, M8, M9, M10, M11, M12, M13, M14, M15, M16⟩ := id hB
  refine lv_aload_n hx hb dX4_queue_0 rfl (lv_at hl 0 rfl) ?_
  refine lv_iload_n hx hb dX4_queue_1 rfl (lv_at hl 1 rfl) ?_
  refine lv_if_lt (tgt := 13) hx hb dX4_queue_2 (by decide) (fun c => absurd c (nI_pos (by omega))) (fun _ => ?_)
  refine lv_iload_n hx hb dX4_queue_5 rfl (lv_at hl 1 rfl) ?_
  refine lv_aload_n hx hb dX4_queue_6 rfl (lv_at hl 0 rfl) ?_
  refine va_get (D := (dC, dI)) (ci := 5) (v := .int (nI (g 9))) (C := RX4) (T := TX4) (N := 29) hx hb hts hinX4 hown hK hP 0 rfl rfl 9 (by decide) (hts (.fieldLink RX4 73 "RenameRowsModel" "free" "I") (by decide +kernel)) (fun _ h9 => h9) rfl dX4_queue_7 ?_
  refine lv_icmp_lt (tgt := 17) hx hb dX4_queue_10 (by decide) (fun c_2 => ?_) (fun c_2 => absurd ((nI_ltI (by omega) (by omega)).mpr (by omega)) c_2)
  have c_2 : j < (g 9) := (nI_ltI (by omega) (by omega)).mp c_2
  refine lv_iconst (v := nI 0) hx hb dX4_queue_17 (by decide) ?_
  refine lv_iconst (v := nI 0) hx hb dX4_queue_18 (by decide) ?_
  refine lv_iconst (v := nI 0) hx hb dX4_queue_19 (by decide) ?_
  refine wr_calli (va_runV (As := [.int (nI 0), .int (nI 0), .int (nI 0)]) (rest := []) ⟨hx, hb, hml, hown, hts⟩ (c_X4_throwing l dC dI cs b g h s.heap.size 0 0 0 hB (by decide) (by decide) (by decide)) (cwV 3 hts gX4_queue_X4_throwing rfl rfl rfl (by decide +kernel) ⟨Nat.le_of_ble_eq_true rfl, Nat.le_of_ble_eq_true rfl⟩) (wr_preV (q := (RX4, TX4, 29)) hP hK hD 0 rfl rfl) rfl rfl hl.1 rfl (lv_room (Nat.le_of_ble_eq_true rfl)) dX4_queue_20 ⟨Nat.zero_le _, Nat.zero_le _⟩) hS hD hA rfl (fun H locs hP hD hS => ?_)
  have hP : va_P (dC, dI) vwCl (wM cs b (un g 0 0) h) H := hP
  have hD : va_D A (wM cs b (un g 0 0) h) := hD
  refine W.eq (g2 := F0 m 23 ls (.int (nI 0) :: [])) rfl ?_
  have hB : m_bd (un g 0 0) := by (unfold m_bd un; simp; omega)
  refine lv_if_eq (tgt := 30) hx hb dX4_queue_23 (by decide) (fun _ => ?_) (fun c => absurd (by decide) c)
  refine lv_aload_n hx hb dX4_queue_30 rfl (lv_at hl 0 rfl) ?_
  refine va_get (D := (dC, dI)) (ci := 5) (v := .ref (b 8)) (C := RX4) (T := TX4) (N := 29) hx hb hts hinX4 hown hK hP 0 rfl rfl 8 (by decide) (hts (.fieldLink RX4 23 "RenameRowsModel" "queue" "[I") (by decide +kernel)) (fun _ h9 => h9) rfl dX4_queue_31 ?_
  refine lv_iload_n hx hb dX4_queue_34 rfl (lv_at hl 1 rfl) ?_
  refine ar_ld (D := (dC, dI)) (n := 96) (f := h 8) hx hb hK hP 5 0 rfl rfl (by omega) (by omega) dX4_queue_35 ?_
  exact wr_iret hx hb hr hlocks hP hS dX4_queue_36

set_option maxHeartbeats 4000000 in
set_option maxRecDepth 100000 in
theorem c_X4_selected_x (l : Launch) (dC : Nat → ClassId) (dI : Nat → Nat → Nat) (cs : ClassId × ClassId) (b g : Nat → Nat) (h : Nat → Nat → Int32) (sz : Nat) (y : Int32) (hbad : inB y 8 = false) (hB : m_bd g)  : Met l yX4_selected wsX4_selected ({ frames := 1, cells := 0, slots := 0, locals := 23 }) (wrPc (dC, dI) vwCl (wM cs b g h) (tyl cs) sz [.ref (b 0), .int y]) (wrQ (dC, dI) vwCl (wM cs b (un g 0 1) h) (some (.int (nI 0))) (va_A (wM cs b g h) sz)) 0 0 (va_A (wM cs b g h) sz) := by
  refine wr_of (cc := cX4_selected) (maxL := 2) (ret := (some .int)) (own := RX4) (by decide) rfl rfl (Nat.le_of_ble_eq_true rfl) ?_
  intro p e s m below meth c A hsz hAe hx hb hr hml hts hown hlocks hP hK hD hA hS ls hl
  have hl : lv_has ls 2 [(0, .ref (b 0)), (1, .int y)] := hl
  obtain ⟨M1, M2, M3, M4, M5, M6, M7, M8, M9, M10, M11, M12, M13, M14, M15, M16⟩ := id hB
  refine lv_aload_n hx hb dX4_selected_0 rfl (lv_at hl 0 rfl) ?_
  refine lv_iload_n hx hb dX4_selected_1 rfl (lv_at hl 1 rfl) ?_
  refine lv_if_lt (tgt := 11) hx hb dX4_selected_2 (by decide) (fun c_1 => ?_) (fun c_1 => ?_)
  · refine lv_iconst (v := nI 1) hx hb dX4_selected_11 (by decide) ?_
    refine lv_goto (tgt := 16) hx hb dX4_selected_12 (by decide) ?_
    refine lv_iconst (v := nI 0) hx hb dX4_selected_16 (by decide) ?_
    refine lv_iconst (v := nI 0) hx hb dX4_selected_17 (by decide) ?_
    refine wr_calli (va_runV (As := [.int (nI 1), .int (nI 0), .int (nI 0)]) (rest := []) ⟨hx, hb, hml, hown, hts⟩ (c_X4_throwing l dC dI cs b g h s.heap.size 1 0 0 hB (by decide) (by decide) (by decide)) (cwV 3 hts gX4_selected_X4_throwing rfl rfl rfl (by decide +kernel) ⟨Nat.le_of_ble_eq_true rfl, Nat.le_of_ble_eq_true rfl⟩) (wr_preV (q := (RX4, TX4, 29)) hP hK hD 0 rfl rfl) rfl rfl hl.1 rfl (lv_room (Nat.le_of_ble_eq_true rfl)) dX4_selected_18 ⟨Nat.zero_le _, Nat.zero_le _⟩) hS hD hA rfl (fun H locs hP hD hS => ?_)
    have hP : va_P (dC, dI) vwCl (wM cs b (un g 0 1) h) H := hP
    have hD : va_D A (wM cs b (un g 0 1) h) := hD
    refine W.eq (g2 := F0 m 21 ls (.int (nI 1) :: [])) rfl ?_
    have hB : m_bd (un g 0 1) := by (unfold m_bd un; simp; omega)
    refine lv_if_eq (tgt := 26) hx hb dX4_selected_21 (by decide) (fun c => absurd c (by decide)) (fun _ => ?_)
    refine lv_iconst (v := nI 0) hx hb dX4_selected_24 (by decide) ?_
    exact wr_iret hx hb hr hlocks hP hS dX4_selected_25
  · refine lv_iload_n hx hb dX4_selected_5 rfl (lv_at hl 1 rfl) ?_
    refine lv_bipush (v := nI 7) hx hb dX4_selected_6 (by decide) ?_
    refine lv_icmp_le (tgt := 15) hx hb dX4_selected_8 (by decide) (fun c_3 => ?_) (fun c_3 => ?_)
    · have q9 := inB_in c_1 (le7 c_3); rw [hbad] at q9; cases q9
    · refine lv_iconst (v := nI 1) hx hb dX4_selected_11 (by decide) ?_
      refine lv_goto (tgt := 16) hx hb dX4_selected_12 (by decide) ?_
      refine lv_iconst (v := nI 0) hx hb dX4_selected_16 (by decide) ?_
      refine lv_iconst (v := nI 0) hx hb dX4_selected_17 (by decide) ?_
      refine wr_calli (va_runV (As := [.int (nI 1), .int (nI 0), .int (nI 0)]) (rest := []) ⟨hx, hb, hml, hown, hts⟩ (c_X4_throwing l dC dI cs b g h s.heap.size 1 0 0 hB (by decide) (by decide) (by decide)) (cwV 3 hts gX4_selected_X4_throwing rfl rfl rfl (by decide +kernel) ⟨Nat.le_of_ble_eq_true rfl, Nat.le_of_ble_eq_true rfl⟩) (wr_preV (q := (RX4, TX4, 29)) hP hK hD 0 rfl rfl) rfl rfl hl.1 rfl (lv_room (Nat.le_of_ble_eq_true rfl)) dX4_selected_18 ⟨Nat.zero_le _, Nat.zero_le _⟩) hS hD hA rfl (fun H locs hP hD hS => ?_)
      have hP : va_P (dC, dI) vwCl (wM cs b (un g 0 1) h) H := hP
      have hD : va_D A (wM cs b (un g 0 1) h) := hD
      refine W.eq (g2 := F0 m 21 ls (.int (nI 1) :: [])) rfl ?_
      have hB : m_bd (un g 0 1) := by (unfold m_bd un; simp; omega)
      refine lv_if_eq (tgt := 26) hx hb dX4_selected_21 (by decide) (fun c => absurd c (by decide)) (fun _ => ?_)
      refine lv_iconst (v := nI 0) hx hb dX4_selected_24 (by decide) ?_
      exact wr_iret hx hb hr hlocks hP hS dX4_selected_25

set_option maxHeartbeats 4000000 in
set_option maxRecDepth 100000 in
theorem c_X4_selected_v (l : Launch) (dC : Nat → ClassId) (dI : Nat → Nat → Nat) (cs : ClassId × ClassId) (b g : Nat → Nat) (h : Nat → Nat → Int32) (sz : Nat) (j : Nat) (hB : m_bd g) (h1 : j < 8)  : Met l yX4_selected wsX4_selected ({ frames := 1, cells := 0, slots := 0, locals := 23 }) (wrPc (dC, dI) vwCl (wM cs b g h) (tyl cs) sz [.ref (b 0), .int (nI j)]) (wrQ (dC, dI) vwCl (wM cs b (un g 0 0) h) (some (.int (h 24 j))) (va_A (wM cs b g h) sz)) 0 0 (va_A (wM cs b g h) sz) := by
  refine wr_of (cc := cX4_selected) (maxL := 2) (ret := (some .int)) (own := RX4) (by decide) rfl rfl (Nat.le_of_ble_eq_true rfl) ?_
  intro p e s m below meth c A hsz hAe hx hb hr hml hts hown hlocks hP hK hD hA hS ls hl
  have hl : lv_has ls 2 [(0, .ref (b 0)), (1, .int (nI j))] := hl
  have hinX4 : ∀ w ∈ wsX40, w ∈ wsX4_selected := by decide +kernel
  obtain ⟨M1, M2, M3, M4, M5, M6, M7, M8, M9, M10, M11, M12, M13, M14, M15, M16⟩ := id hB
  refine lv_aload_n hx hb dX4_selected_0 rfl (lv_at hl 0 rfl) ?_
  refine lv_iload_n hx hb dX4_selected_1 rfl (lv_at hl 1 rfl) ?_
  refine lv_if_lt (tgt := 11) hx hb dX4_selected_2 (by decide) (fun c => absurd c (nI_pos (by omega))) (fun _ => ?_)
  refine lv_iload_n hx hb dX4_selected_5 rfl (lv_at hl 1 rfl) ?_
  refine lv_bipush (v := nI 7) hx hb dX4_selected_6 (by decide) ?_
  refine lv_icmp_le (tgt := 15) hx hb dX4_selected_8 (by decide) (fun c_2 => ?_) (fun c_2 => absurd (nI_le (by omega) (by omega)) c_2)
  have c_2 : j ≤ 7 := (nI_leI (by omega) (by omega)).mp c_2
  refine lv_iconst (v := nI 0) hx hb dX4_selected_15 (by decide) ?_
  refine lv_iconst (v := nI 0) hx hb dX4_selected_16 (by decide) ?_
  refine lv_iconst (v := nI 0) hx hb dX4_selected_17 (by decide) ?_
  refine wr_calli (va_runV (As := [.int (nI 0), .int (nI 0), .int (nI 0)]) (rest := []) ⟨hx, hb, hml, hown, hts⟩ (c_X4_throwing l dC dI cs b g h s.heap.size 0 0 0 hB (by decide) (by decide) (by decide)) (cwV 3 hts gX4_selected_X4_throwing rfl rfl rfl (by decide +kernel) ⟨Nat.le_of_ble_eq_true rfl, Nat.le_of_ble_eq_true rfl⟩) (wr_preV (q := (RX4, TX4, 29)) hP hK hD 0 rfl rfl) rfl rfl hl.1 rfl (lv_room (Nat.le_of_ble_eq_true rfl)) dX4_selected_18 ⟨Nat.zero_le _, Nat.zero_le _⟩) hS hD hA rfl (fun H locs hP hD hS => ?_)
  have hP : va_P (dC, dI) vwCl (wM cs b (un g 0 0) h) H := hP
  have hD : va_D A (wM cs b (un g 0 0) h) := hD
  refine W.eq (g2 := F0 m 21 ls (.int (nI 0) :: [])) rfl ?_
  have hB : m_bd (un g 0 0) := by (unfold m_bd un; simp; omega)
  refine lv_if_eq (tgt := 26) hx hb dX4_selected_21 (by decide) (fun _ => ?_) (fun c => absurd (by decide) c)
  refine lv_aload_n hx hb dX4_selected_26 rfl (lv_at hl 0 rfl) ?_
  refine va_get (D := (dC, dI)) (ci := 5) (v := .ref (b 24)) (C := RX4) (T := TX4) (N := 29) hx hb hts hinX4 hown hK hP 0 rfl rfl 24 (by decide) (hts (.fieldLink RX4 56 "RenameRowsModel" "went" "[I") (by decide +kernel)) (fun _ h9 => h9) rfl dX4_selected_27 ?_
  refine lv_iload_n hx hb dX4_selected_30 rfl (lv_at hl 1 rfl) ?_
  refine ar_ld (D := (dC, dI)) (n := 8) (f := h 24) hx hb hK hP 16 0 rfl rfl (by omega) (by omega) dX4_selected_31 ?_
  exact wr_iret hx hb hr hlocks hP hS dX4_selected_32

set_option maxHeartbeats 4000000 in
set_option maxRecDepth 100000 in
theorem c_X4_port_x1 (l : Launch) (dC : Nat → ClassId) (dI : Nat → Nat → Nat) (cs : ClassId × ClassId) (b g : Nat → Nat) (h : Nat → Nat → Int32) (sz : Nat) (y : Int32) (z : Int32) (hbad : inB y (g 3) = false) (hB : m_bd g)  : Met l yX4_port wsX4_port ({ frames := 1, cells := 0, slots := 0, locals := 23 }) (wrPc (dC, dI) vwCl (wM cs b g h) (tyl cs) sz [.ref (b 0), .int y, .int z]) (wrQ (dC, dI) vwCl (wM cs b (un g 0 1) h) (some (.int (nI 0))) (va_A (wM cs b g h) sz)) 0 0 (va_A (wM cs b g h) sz) := by
  refine wr_of (cc := cX4_port) (maxL := 5) (ret := (some .int)) (own := RX4) (by decide) rfl rfl (Nat.le_of_ble_eq_true rfl) ?_
  intro p e s m below meth c A hsz hAe hx hb hr hml hts hown hlocks hP hK hD hA hS ls hl
  have hl : lv_has ls 5 [(0, .ref (b 0)), (1, .int y), (2, .int z)] := hl
  obtain ⟨M1, M2, M3, M4, M5, M6, M7, M8, M9, M10, M11, M12, M13, M14, M15, M16⟩ := id hB
  refine lv_aload_n hx hb dX4_port_0 rfl (lv_at hl 0 rfl) ?_
  refine lv_iload_n hx hb dX4_port_1 rfl (lv_at hl 1 rfl) ?_
  refine W.callR (W.runV (As := [.int y]) (rest := []) ⟨hx, hb, hml, hown, hts⟩ (c_X4_isPlace l dC dI cs b g h y hB) (cwV 1 hts gX4_port_X4_isPlace rfl rfl rfl (by decide +kernel) ⟨Nat.le_of_ble_eq_true rfl, Nat.le_of_ble_eq_true rfl⟩) (rd_preV (q := (RX4, TX4, 29)) hP hK 0 rfl rfl) rfl rfl hl.1 rfl (lv_room (Nat.le_of_ble_eq_true rfl)) dX4_port_2 ⟨Nat.zero_le _, Nat.zero_le _⟩) ?_
  refine W.eq (g2 := F0 m 5 ls (.int (b2i (inB y (g 3))) :: [])) rfl ?_
  refine lv_if_eq (tgt := 16) hx hb dX4_port_5 (by decide) (fun c_1 => ?_) (fun c_1 => absurd (b2i_t c_1) (by rw [hbad]; decide))
  have c_1 : inB y (g 3) = false := b2i_f c_1
  refine lv_iconst (v := (-1)) hx hb dX4_port_16 (by decide) ?_
  refine lv_istore_n (lv' := [(3, .int (-1)), (0, .ref (b 0)), (1, .int y), (2, .int z)]) hx hb dX4_port_17 rfl hl (by decide) rfl (fun ls hl => ?_)
  refine lv_aload_n hx hb dX4_port_18 rfl (lv_at hl 1 rfl) ?_
  refine lv_aload_n hx hb dX4_port_19 rfl (lv_at hl 1 rfl) ?_
  refine lv_iload_n hx hb dX4_port_20 rfl (lv_at hl 2 rfl) ?_
  refine W.callR (W.runV (As := [.int y]) (rest := [.ref (b 0)]) ⟨hx, hb, hml, hown, hts⟩ (c_X4_isPlace l dC dI cs b g h y hB) (cwV 1 hts gX4_port_X4_isPlace rfl rfl rfl (by decide +kernel) ⟨Nat.le_of_ble_eq_true rfl, Nat.le_of_ble_eq_true rfl⟩) (rd_preV (q := (RX4, TX4, 29)) hP hK 0 rfl rfl) rfl rfl hl.1 rfl (lv_room (Nat.le_of_ble_eq_true rfl)) dX4_port_21 ⟨Nat.zero_le _, Nat.zero_le _⟩) ?_
  refine W.eq (g2 := F0 m 24 ls (.int (b2i (inB y (g 3))) :: [.ref (b 0)])) rfl ?_
  refine lv_if_ne (tgt := 31) hx hb dX4_port_24 (by decide) (fun c_2 => absurd (b2i_t c_2) (by rw [hbad]; decide)) (fun c_2 => ?_)
  have c_2 : inB y (g 3) = false := b2i_f c_2
  refine lv_iconst (v := nI 1) hx hb dX4_port_27 (by decide) ?_
  refine lv_goto (tgt := 32) hx hb dX4_port_28 (by decide) ?_
  refine lv_iload_n hx hb dX4_port_32 rfl (lv_at hl 0 rfl) ?_
  refine lv_if_lt (tgt := 53) hx hb dX4_port_33 (by decide) (fun _ => ?_) (fun c => absurd (by decide) c)
  refine lv_iconst (v := nI 1) hx hb dX4_port_53 (by decide) ?_
  refine lv_goto (tgt := 58) hx hb dX4_port_54 (by decide) ?_
  refine lv_iload_n hx hb dX4_port_58 rfl (lv_at hl 3 rfl) ?_
  refine lv_if_lt (tgt := 68) hx hb dX4_port_59 (by decide) (fun c_4 => ?_) (fun c_4 => ?_)
  · refine lv_iconst (v := nI 1) hx hb dX4_port_68 (by decide) ?_
    refine lv_goto (tgt := 73) hx hb dX4_port_69 (by decide) ?_
    refine wr_calli (va_runV (As := [.int (nI 1), .int (nI 1), .int (nI 1)]) (rest := []) ⟨hx, hb, hml, hown, hts⟩ (c_X4_throwing l dC dI cs b g h s.heap.size 1 1 1 hB (by decide) (by decide) (by decide)) (cwV 3 hts gX4_port_X4_throwing rfl rfl rfl (by decide +kernel) ⟨Nat.le_of_ble_eq_true rfl, Nat.le_of_ble_eq_true rfl⟩) (wr_preV (q := (RX4, TX4, 29)) hP hK hD 0 rfl rfl) rfl rfl hl.1 rfl (lv_room (Nat.le_of_ble_eq_true rfl)) dX4_port_73 ⟨Nat.zero_le _, Nat.zero_le _⟩) hS hD hA rfl (fun H locs hP hD hS => ?_)
    have hP : va_P (dC, dI) vwCl (wM cs b (un g 0 1) h) H := hP
    have hD : va_D A (wM cs b (un g 0 1) h) := hD
    refine W.eq (g2 := F0 m 76 ls (.int (nI 1) :: [])) rfl ?_
    have hB : m_bd (un g 0 1) := by (unfold m_bd un; simp; omega)
    refine lv_if_eq (tgt := 81) hx hb dX4_port_76 (by decide) (fun c => absurd c (by decide)) (fun _ => ?_)
    refine lv_iconst (v := nI 0) hx hb dX4_port_79 (by decide) ?_
    exact wr_iret hx hb hr hlocks hP hS dX4_port_80
  · refine lv_iload_n hx hb dX4_port_62 rfl (lv_at hl 3 rfl) ?_
    refine lv_bipush (v := nI 7) hx hb dX4_port_63 (by decide) ?_
    refine lv_icmp_le (tgt := 72) hx hb dX4_port_65 (by decide) (fun c_6 => ?_) (fun c_6 => ?_)
    · refine lv_iconst (v := nI 0) hx hb dX4_port_72 (by decide) ?_
      refine wr_calli (va_runV (As := [.int (nI 1), .int (nI 1), .int (nI 0)]) (rest := []) ⟨hx, hb, hml, hown, hts⟩ (c_X4_throwing l dC dI cs b g h s.heap.size 1 1 0 hB (by decide) (by decide) (by decide)) (cwV 3 hts gX4_port_X4_throwing rfl rfl rfl (by decide +kernel) ⟨Nat.le_of_ble_eq_true rfl, Nat.le_of_ble_eq_true rfl⟩) (wr_preV (q := (RX4, TX4, 29)) hP hK hD 0 rfl rfl) rfl rfl hl.1 rfl (lv_room (Nat.le_of_ble_eq_true rfl)) dX4_port_73 ⟨Nat.zero_le _, Nat.zero_le _⟩) hS hD hA rfl (fun H locs hP hD hS => ?_)
      have hP : va_P (dC, dI) vwCl (wM cs b (un g 0 1) h) H := hP
      have hD : va_D A (wM cs b (un g 0 1) h) := hD
      refine W.eq (g2 := F0 m 76 ls (.int (nI 1) :: [])) rfl ?_
      have hB : m_bd (un g 0 1) := by (unfold m_bd un; simp; omega)
      refine lv_if_eq (tgt := 81) hx hb dX4_port_76 (by decide) (fun c => absurd c (by decide)) (fun _ => ?_)
      refine lv_iconst (v := nI 0) hx hb dX4_port_79 (by decide) ?_
      exact wr_iret hx hb hr hlocks hP hS dX4_port_80
    · refine lv_iconst (v := nI 1) hx hb dX4_port_68 (by decide) ?_
      refine lv_goto (tgt := 73) hx hb dX4_port_69 (by decide) ?_
      refine wr_calli (va_runV (As := [.int (nI 1), .int (nI 1), .int (nI 1)]) (rest := []) ⟨hx, hb, hml, hown, hts⟩ (c_X4_throwing l dC dI cs b g h s.heap.size 1 1 1 hB (by decide) (by decide) (by decide)) (cwV 3 hts gX4_port_X4_throwing rfl rfl rfl (by decide +kernel) ⟨Nat.le_of_ble_eq_true rfl, Nat.le_of_ble_eq_true rfl⟩) (wr_preV (q := (RX4, TX4, 29)) hP hK hD 0 rfl rfl) rfl rfl hl.1 rfl (lv_room (Nat.le_of_ble_eq_true rfl)) dX4_port_73 ⟨Nat.zero_le _, Nat.zero_le _⟩) hS hD hA rfl (fun H locs hP hD hS => ?_)
      have hP : va_P (dC, dI) vwCl (wM cs b (un g 0 1) h) H := hP
      have hD : va_D A (wM cs b (un g 0 1) h) := hD
      refine W.eq (g2 := F0 m 76 ls (.int (nI 1) :: [])) rfl ?_
      have hB : m_bd (un g 0 1) := by (unfold m_bd un; simp; omega)
      refine lv_if_eq (tgt := 81) hx hb dX4_port_76 (by decide) (fun c => absurd c (by decide)) (fun _ => ?_)
      refine lv_iconst (v := nI 0) hx hb dX4_port_79 (by decide) ?_
      exact wr_iret hx hb hr hlocks hP hS dX4_port_80

set_option maxHeartbeats 4000000 in
set_option maxRecDepth 100000 in
theorem c_X4_port_x2a (l : Launch) (dC : Nat → ClassId) (dI : Nat → Nat → Nat) (cs : ClassId × ClassId) (b g : Nat → Nat) (h : Nat → Nat → Int32) (sz : Nat) (j : Nat) (z : Int32) (hat : m_at g j = -1) (hB : m_bd g) (h1 : j < g 3)  : Met l yX4_port wsX4_port ({ frames := 1, cells := 0, slots := 0, locals := 23 }) (wrPc (dC, dI) vwCl (wM cs b g h) (tyl cs) sz [.ref (b 0), .int (nI j), .int z]) (wrQ (dC, dI) vwCl (wM cs b (un g 0 2) h) (some (.int (nI 0))) (va_A (wM cs b g h) sz)) 0 0 (va_A (wM cs b g h) sz) := by
  refine wr_of (cc := cX4_port) (maxL := 5) (ret := (some .int)) (own := RX4) (by decide) rfl rfl (Nat.le_of_ble_eq_true rfl) ?_
  intro p e s m below meth c A hsz hAe hx hb hr hml hts hown hlocks hP hK hD hA hS ls hl
  have hl : lv_has ls 5 [(0, .ref (b 0)), (1, .int (nI j)), (2, .int z)] := hl
  obtain ⟨M1, M2, M3, M4, M5, M6, M7, M8, M9, M10, M11, M12, M13, M14, M15, M16⟩ := id hB
  refine lv_aload_n hx hb dX4_port_0 rfl (lv_at hl 0 rfl) ?_
  refine lv_iload_n hx hb dX4_port_1 rfl (lv_at hl 1 rfl) ?_
  refine W.callR (W.runV (As := [.int (nI j)]) (rest := []) ⟨hx, hb, hml, hown, hts⟩ (c_X4_isPlace l dC dI cs b g h (nI j) hB) (cwV 1 hts gX4_port_X4_isPlace rfl rfl rfl (by decide +kernel) ⟨Nat.le_of_ble_eq_true rfl, Nat.le_of_ble_eq_true rfl⟩) (rd_preV (q := (RX4, TX4, 29)) hP hK 0 rfl rfl) rfl rfl hl.1 rfl (lv_room (Nat.le_of_ble_eq_true rfl)) dX4_port_2 ⟨Nat.zero_le _, Nat.zero_le _⟩) ?_
  refine W.eq (g2 := F0 m 5 ls (.int (b2i (inB (nI j) (g 3))) :: [])) rfl ?_
  refine lv_if_eq (tgt := 16) hx hb dX4_port_5 (by decide) (fun c_1 => absurd (b2i_f c_1) (by rw [inB_nI (by omega) (by omega)]; simp; omega)) (fun c_1 => ?_)
  have c_1 : inB (nI j) (g 3) = true := b2i_t c_1
  refine lv_aload_n hx hb dX4_port_8 rfl (lv_at hl 0 rfl) ?_
  refine lv_iload_n hx hb dX4_port_9 rfl (lv_at hl 1 rfl) ?_
  refine W.callR (W.runV (As := [.int (nI j)]) (rest := []) ⟨hx, hb, hml, hown, hts⟩ (c_X4_at l dC dI cs b g h j hB (by first | omega | assumption)) (cwV 1 hts gX4_port_X4_at rfl rfl rfl (by decide +kernel) ⟨Nat.le_of_ble_eq_true rfl, Nat.le_of_ble_eq_true rfl⟩) (rd_preV (q := (RX4, TX4, 29)) hP hK 0 rfl rfl) rfl rfl hl.1 rfl (lv_room (Nat.le_of_ble_eq_true rfl)) dX4_port_10 ⟨Nat.zero_le _, Nat.zero_le _⟩) ?_
  refine W.eq (g2 := F0 m 13 ls (.int (m_at g j) :: [])) rfl ?_
  refine tp_eq hat ?_
  refine lv_goto (tgt := 17) hx hb dX4_port_13 (by decide) ?_
  refine lv_istore_n (lv' := [(3, .int (-1)), (0, .ref (b 0)), (1, .int (nI j)), (2, .int z)]) hx hb dX4_port_17 rfl hl (by decide) rfl (fun ls hl => ?_)
  refine lv_aload_n hx hb dX4_port_18 rfl (lv_at hl 1 rfl) ?_
  refine lv_aload_n hx hb dX4_port_19 rfl (lv_at hl 1 rfl) ?_
  refine lv_iload_n hx hb dX4_port_20 rfl (lv_at hl 2 rfl) ?_
  refine W.callR (W.runV (As := [.int (nI j)]) (rest := [.ref (b 0)]) ⟨hx, hb, hml, hown, hts⟩ (c_X4_isPlace l dC dI cs b g h (nI j) hB) (cwV 1 hts gX4_port_X4_isPlace rfl rfl rfl (by decide +kernel) ⟨Nat.le_of_ble_eq_true rfl, Nat.le_of_ble_eq_true rfl⟩) (rd_preV (q := (RX4, TX4, 29)) hP hK 0 rfl rfl) rfl rfl hl.1 rfl (lv_room (Nat.le_of_ble_eq_true rfl)) dX4_port_21 ⟨Nat.zero_le _, Nat.zero_le _⟩) ?_
  refine W.eq (g2 := F0 m 24 ls (.int (b2i (inB (nI j) (g 3))) :: [.ref (b 0)])) rfl ?_
  refine lv_if_ne (tgt := 31) hx hb dX4_port_24 (by decide) (fun c_2 => ?_) (fun c_2 => absurd (b2i_f c_2) (by rw [inB_nI (by omega) (by omega)]; simp; omega))
  have c_2 : inB (nI j) (g 3) = true := b2i_t c_2
  refine lv_iconst (v := nI 0) hx hb dX4_port_31 (by decide) ?_
  refine lv_iload_n hx hb dX4_port_32 rfl (lv_at hl 0 rfl) ?_
  refine lv_if_lt (tgt := 53) hx hb dX4_port_33 (by decide) (fun _ => ?_) (fun c => absurd (by decide) c)
  refine lv_iconst (v := nI 1) hx hb dX4_port_53 (by decide) ?_
  refine lv_goto (tgt := 58) hx hb dX4_port_54 (by decide) ?_
  refine lv_iload_n hx hb dX4_port_58 rfl (lv_at hl 3 rfl) ?_
  refine lv_if_lt (tgt := 68) hx hb dX4_port_59 (by decide) (fun c_4 => ?_) (fun c_4 => ?_)
  · refine lv_iconst (v := nI 1) hx hb dX4_port_68 (by decide) ?_
    refine lv_goto (tgt := 73) hx hb dX4_port_69 (by decide) ?_
    refine wr_calli (va_runV (As := [.int (nI 0), .int (nI 1), .int (nI 1)]) (rest := []) ⟨hx, hb, hml, hown, hts⟩ (c_X4_throwing l dC dI cs b g h s.heap.size 0 1 1 hB (by decide) (by decide) (by decide)) (cwV 3 hts gX4_port_X4_throwing rfl rfl rfl (by decide +kernel) ⟨Nat.le_of_ble_eq_true rfl, Nat.le_of_ble_eq_true rfl⟩) (wr_preV (q := (RX4, TX4, 29)) hP hK hD 0 rfl rfl) rfl rfl hl.1 rfl (lv_room (Nat.le_of_ble_eq_true rfl)) dX4_port_73 ⟨Nat.zero_le _, Nat.zero_le _⟩) hS hD hA rfl (fun H locs hP hD hS => ?_)
    have hP : va_P (dC, dI) vwCl (wM cs b (un g 0 2) h) H := hP
    have hD : va_D A (wM cs b (un g 0 2) h) := hD
    refine W.eq (g2 := F0 m 76 ls (.int (nI 1) :: [])) rfl ?_
    have hB : m_bd (un g 0 2) := by (unfold m_bd un; simp; omega)
    refine lv_if_eq (tgt := 81) hx hb dX4_port_76 (by decide) (fun c => absurd c (by decide)) (fun _ => ?_)
    refine lv_iconst (v := nI 0) hx hb dX4_port_79 (by decide) ?_
    exact wr_iret hx hb hr hlocks hP hS dX4_port_80
  · refine lv_iload_n hx hb dX4_port_62 rfl (lv_at hl 3 rfl) ?_
    refine lv_bipush (v := nI 7) hx hb dX4_port_63 (by decide) ?_
    refine lv_icmp_le (tgt := 72) hx hb dX4_port_65 (by decide) (fun c_6 => ?_) (fun c_6 => ?_)
    · refine lv_iconst (v := nI 0) hx hb dX4_port_72 (by decide) ?_
      refine wr_calli (va_runV (As := [.int (nI 0), .int (nI 1), .int (nI 0)]) (rest := []) ⟨hx, hb, hml, hown, hts⟩ (c_X4_throwing l dC dI cs b g h s.heap.size 0 1 0 hB (by decide) (by decide) (by decide)) (cwV 3 hts gX4_port_X4_throwing rfl rfl rfl (by decide +kernel) ⟨Nat.le_of_ble_eq_true rfl, Nat.le_of_ble_eq_true rfl⟩) (wr_preV (q := (RX4, TX4, 29)) hP hK hD 0 rfl rfl) rfl rfl hl.1 rfl (lv_room (Nat.le_of_ble_eq_true rfl)) dX4_port_73 ⟨Nat.zero_le _, Nat.zero_le _⟩) hS hD hA rfl (fun H locs hP hD hS => ?_)
      have hP : va_P (dC, dI) vwCl (wM cs b (un g 0 2) h) H := hP
      have hD : va_D A (wM cs b (un g 0 2) h) := hD
      refine W.eq (g2 := F0 m 76 ls (.int (nI 1) :: [])) rfl ?_
      have hB : m_bd (un g 0 2) := by (unfold m_bd un; simp; omega)
      refine lv_if_eq (tgt := 81) hx hb dX4_port_76 (by decide) (fun c => absurd c (by decide)) (fun _ => ?_)
      refine lv_iconst (v := nI 0) hx hb dX4_port_79 (by decide) ?_
      exact wr_iret hx hb hr hlocks hP hS dX4_port_80
    · refine lv_iconst (v := nI 1) hx hb dX4_port_68 (by decide) ?_
      refine lv_goto (tgt := 73) hx hb dX4_port_69 (by decide) ?_
      refine wr_calli (va_runV (As := [.int (nI 0), .int (nI 1), .int (nI 1)]) (rest := []) ⟨hx, hb, hml, hown, hts⟩ (c_X4_throwing l dC dI cs b g h s.heap.size 0 1 1 hB (by decide) (by decide) (by decide)) (cwV 3 hts gX4_port_X4_throwing rfl rfl rfl (by decide +kernel) ⟨Nat.le_of_ble_eq_true rfl, Nat.le_of_ble_eq_true rfl⟩) (wr_preV (q := (RX4, TX4, 29)) hP hK hD 0 rfl rfl) rfl rfl hl.1 rfl (lv_room (Nat.le_of_ble_eq_true rfl)) dX4_port_73 ⟨Nat.zero_le _, Nat.zero_le _⟩) hS hD hA rfl (fun H locs hP hD hS => ?_)
      have hP : va_P (dC, dI) vwCl (wM cs b (un g 0 2) h) H := hP
      have hD : va_D A (wM cs b (un g 0 2) h) := hD
      refine W.eq (g2 := F0 m 76 ls (.int (nI 1) :: [])) rfl ?_
      have hB : m_bd (un g 0 2) := by (unfold m_bd un; simp; omega)
      refine lv_if_eq (tgt := 81) hx hb dX4_port_76 (by decide) (fun c => absurd c (by decide)) (fun _ => ?_)
      refine lv_iconst (v := nI 0) hx hb dX4_port_79 (by decide) ?_
      exact wr_iret hx hb hr hlocks hP hS dX4_port_80

set_option maxHeartbeats 4000000 in
set_option maxRecDepth 100000 in
theorem c_X4_port_x2b (l : Launch) (dC : Nat → ClassId) (dI : Nat → Nat → Nat) (cs : ClassId × ClassId) (b g : Nat → Nat) (h : Nat → Nat → Int32) (sz : Nat) (j : Nat) (z : Int32) (i : Nat) (hat : m_at g j = nI i) (hst : ¬ h 18 i = 0) (hB : m_bd g) (h1 : j < g 3) (h2 : i < g 10)  : Met l yX4_port wsX4_port ({ frames := 1, cells := 0, slots := 0, locals := 23 }) (wrPc (dC, dI) vwCl (wM cs b g h) (tyl cs) sz [.ref (b 0), .int (nI j), .int z]) (wrQ (dC, dI) vwCl (wM cs b (un g 0 2) h) (some (.int (nI 0))) (va_A (wM cs b g h) sz)) 0 0 (va_A (wM cs b g h) sz) := by
  refine wr_of (cc := cX4_port) (maxL := 5) (ret := (some .int)) (own := RX4) (by decide) rfl rfl (Nat.le_of_ble_eq_true rfl) ?_
  intro p e s m below meth c A hsz hAe hx hb hr hml hts hown hlocks hP hK hD hA hS ls hl
  have hl : lv_has ls 5 [(0, .ref (b 0)), (1, .int (nI j)), (2, .int z)] := hl
  have hinX4 : ∀ w ∈ wsX40, w ∈ wsX4_port := by decide +kernel
  obtain ⟨M1, M2, M3, M4, M5, M6, M7, M8, M9, M10, M11, M12, M13, M14, M15, M16⟩ := id hB
  refine lv_aload_n hx hb dX4_port_0 rfl (lv_at hl 0 rfl) ?_
  refine lv_iload_n hx hb dX4_port_1 rfl (lv_at hl 1 rfl) ?_
  refine W.callR (W.runV (As := [.int (nI j)]) (rest := []) ⟨hx, hb, hml, hown, hts⟩ (c_X4_isPlace l dC dI cs b g h (nI j) hB) (cwV 1 hts gX4_port_X4_isPlace rfl rfl rfl (by decide +kernel) ⟨Nat.le_of_ble_eq_true rfl, Nat.le_of_ble_eq_true rfl⟩) (rd_preV (q := (RX4, TX4, 29)) hP hK 0 rfl rfl) rfl rfl hl.1 rfl (lv_room (Nat.le_of_ble_eq_true rfl)) dX4_port_2 ⟨Nat.zero_le _, Nat.zero_le _⟩) ?_
  refine W.eq (g2 := F0 m 5 ls (.int (b2i (inB (nI j) (g 3))) :: [])) rfl ?_
  refine lv_if_eq (tgt := 16) hx hb dX4_port_5 (by decide) (fun c_1 => absurd (b2i_f c_1) (by rw [inB_nI (by omega) (by omega)]; simp; omega)) (fun c_1 => ?_)
  have c_1 : inB (nI j) (g 3) = true := b2i_t c_1
  refine lv_aload_n hx hb dX4_port_8 rfl (lv_at hl 0 rfl) ?_
  refine lv_iload_n hx hb dX4_port_9 rfl (lv_at hl 1 rfl) ?_
  refine W.callR (W.runV (As := [.int (nI j)]) (rest := []) ⟨hx, hb, hml, hown, hts⟩ (c_X4_at l dC dI cs b g h j hB (by first | omega | assumption)) (cwV 1 hts gX4_port_X4_at rfl rfl rfl (by decide +kernel) ⟨Nat.le_of_ble_eq_true rfl, Nat.le_of_ble_eq_true rfl⟩) (rd_preV (q := (RX4, TX4, 29)) hP hK 0 rfl rfl) rfl rfl hl.1 rfl (lv_room (Nat.le_of_ble_eq_true rfl)) dX4_port_10 ⟨Nat.zero_le _, Nat.zero_le _⟩) ?_
  refine W.eq (g2 := F0 m 13 ls (.int (m_at g j) :: [])) rfl ?_
  refine tp_eq hat ?_
  refine lv_goto (tgt := 17) hx hb dX4_port_13 (by decide) ?_
  refine lv_istore_n (lv' := [(3, .int (nI i)), (0, .ref (b 0)), (1, .int (nI j)), (2, .int z)]) hx hb dX4_port_17 rfl hl (by decide) rfl (fun ls hl => ?_)
  refine lv_aload_n hx hb dX4_port_18 rfl (lv_at hl 1 rfl) ?_
  refine lv_aload_n hx hb dX4_port_19 rfl (lv_at hl 1 rfl) ?_
  refine lv_iload_n hx hb dX4_port_20 rfl (lv_at hl 2 rfl) ?_
  refine W.callR (W.runV (As := [.int (nI j)]) (rest := [.ref (b 0)]) ⟨hx, hb, hml, hown, hts⟩ (c_X4_isPlace l dC dI cs b g h (nI j) hB) (cwV 1 hts gX4_port_X4_isPlace rfl rfl rfl (by decide +kernel) ⟨Nat.le_of_ble_eq_true rfl, Nat.le_of_ble_eq_true rfl⟩) (rd_preV (q := (RX4, TX4, 29)) hP hK 0 rfl rfl) rfl rfl hl.1 rfl (lv_room (Nat.le_of_ble_eq_true rfl)) dX4_port_21 ⟨Nat.zero_le _, Nat.zero_le _⟩) ?_
  refine W.eq (g2 := F0 m 24 ls (.int (b2i (inB (nI j) (g 3))) :: [.ref (b 0)])) rfl ?_
  refine lv_if_ne (tgt := 31) hx hb dX4_port_24 (by decide) (fun c_2 => ?_) (fun c_2 => absurd (b2i_f c_2) (by rw [inB_nI (by omega) (by omega)]; simp; omega))
  have c_2 : inB (nI j) (g 3) = true := b2i_t c_2
  refine lv_iconst (v := nI 0) hx hb dX4_port_31 (by decide) ?_
  refine lv_iload_n hx hb dX4_port_32 rfl (lv_at hl 0 rfl) ?_
  refine lv_if_lt (tgt := 53) hx hb dX4_port_33 (by decide) (fun c => absurd c (nI_pos (by omega))) (fun _ => ?_)
  refine lv_aload_n hx hb dX4_port_36 rfl (lv_at hl 1 rfl) ?_
  refine va_get (D := (dC, dI)) (ci := 5) (v := .ref (b 18)) (C := RX4) (T := TX4) (N := 29) hx hb hts hinX4 hown hK hP 0 rfl rfl 18 (by decide) (hts (.fieldLink RX4 44 "RenameRowsModel" "state" "[I") (by decide +kernel)) (fun _ h9 => h9) rfl dX4_port_37 ?_
  refine lv_iload_n hx hb dX4_port_40 rfl (lv_at hl 0 rfl) ?_
  refine lv_if_ge (tgt := 48) hx hb dX4_port_41 (by decide) (fun _ => ?_) (fun c => absurd (nI_pos' (by omega)) c)
  refine lv_iload_n hx hb dX4_port_48 rfl (lv_at hl 0 rfl) ?_
  refine ar_ld (D := (dC, dI)) (n := 64) (f := h 18) hx hb hK hP 12 0 rfl rfl (by omega) (by omega) dX4_port_49 ?_
  refine lv_if_eq (tgt := 57) hx hb dX4_port_50 (by decide) (fun c_5 => absurd c_5 hst) (fun c_5 => ?_)
  refine lv_iconst (v := nI 1) hx hb dX4_port_53 (by decide) ?_
  refine lv_goto (tgt := 58) hx hb dX4_port_54 (by decide) ?_
  refine lv_iload_n hx hb dX4_port_58 rfl (lv_at hl 3 rfl) ?_
  refine lv_if_lt (tgt := 68) hx hb dX4_port_59 (by decide) (fun c_6 => ?_) (fun c_6 => ?_)
  · refine lv_iconst (v := nI 1) hx hb dX4_port_68 (by decide) ?_
    refine lv_goto (tgt := 73) hx hb dX4_port_69 (by decide) ?_
    refine wr_calli (va_runV (As := [.int (nI 0), .int (nI 1), .int (nI 1)]) (rest := []) ⟨hx, hb, hml, hown, hts⟩ (c_X4_throwing l dC dI cs b g h s.heap.size 0 1 1 hB (by decide) (by decide) (by decide)) (cwV 3 hts gX4_port_X4_throwing rfl rfl rfl (by decide +kernel) ⟨Nat.le_of_ble_eq_true rfl, Nat.le_of_ble_eq_true rfl⟩) (wr_preV (q := (RX4, TX4, 29)) hP hK hD 0 rfl rfl) rfl rfl hl.1 rfl (lv_room (Nat.le_of_ble_eq_true rfl)) dX4_port_73 ⟨Nat.zero_le _, Nat.zero_le _⟩) hS hD hA rfl (fun H locs hP hD hS => ?_)
    have hP : va_P (dC, dI) vwCl (wM cs b (un g 0 2) h) H := hP
    have hD : va_D A (wM cs b (un g 0 2) h) := hD
    refine W.eq (g2 := F0 m 76 ls (.int (nI 1) :: [])) rfl ?_
    have hB : m_bd (un g 0 2) := by (unfold m_bd un; simp; omega)
    refine lv_if_eq (tgt := 81) hx hb dX4_port_76 (by decide) (fun c => absurd c (by decide)) (fun _ => ?_)
    refine lv_iconst (v := nI 0) hx hb dX4_port_79 (by decide) ?_
    exact wr_iret hx hb hr hlocks hP hS dX4_port_80
  · refine lv_iload_n hx hb dX4_port_62 rfl (lv_at hl 3 rfl) ?_
    refine lv_bipush (v := nI 7) hx hb dX4_port_63 (by decide) ?_
    refine lv_icmp_le (tgt := 72) hx hb dX4_port_65 (by decide) (fun c_8 => ?_) (fun c_8 => ?_)
    · refine lv_iconst (v := nI 0) hx hb dX4_port_72 (by decide) ?_
      refine wr_calli (va_runV (As := [.int (nI 0), .int (nI 1), .int (nI 0)]) (rest := []) ⟨hx, hb, hml, hown, hts⟩ (c_X4_throwing l dC dI cs b g h s.heap.size 0 1 0 hB (by decide) (by decide) (by decide)) (cwV 3 hts gX4_port_X4_throwing rfl rfl rfl (by decide +kernel) ⟨Nat.le_of_ble_eq_true rfl, Nat.le_of_ble_eq_true rfl⟩) (wr_preV (q := (RX4, TX4, 29)) hP hK hD 0 rfl rfl) rfl rfl hl.1 rfl (lv_room (Nat.le_of_ble_eq_true rfl)) dX4_port_73 ⟨Nat.zero_le _, Nat.zero_le _⟩) hS hD hA rfl (fun H locs hP hD hS => ?_)
      have hP : va_P (dC, dI) vwCl (wM cs b (un g 0 2) h) H := hP
      have hD : va_D A (wM cs b (un g 0 2) h) := hD
      refine W.eq (g2 := F0 m 76 ls (.int (nI 1) :: [])) rfl ?_
      have hB : m_bd (un g 0 2) := by (unfold m_bd un; simp; omega)
      refine lv_if_eq (tgt := 81) hx hb dX4_port_76 (by decide) (fun c => absurd c (by decide)) (fun _ => ?_)
      refine lv_iconst (v := nI 0) hx hb dX4_port_79 (by decide) ?_
      exact wr_iret hx hb hr hlocks hP hS dX4_port_80
    · refine lv_iconst (v := nI 1) hx hb dX4_port_68 (by decide) ?_
      refine lv_goto (tgt := 73) hx hb dX4_port_69 (by decide) ?_
      refine wr_calli (va_runV (As := [.int (nI 0), .int (nI 1), .int (nI 1)]) (rest := []) ⟨hx, hb, hml, hown, hts⟩ (c_X4_throwing l dC dI cs b g h s.heap.size 0 1 1 hB (by decide) (by decide) (by decide)) (cwV 3 hts gX4_port_X4_throwing rfl rfl rfl (by decide +kernel) ⟨Nat.le_of_ble_eq_true rfl, Nat.le_of_ble_eq_true rfl⟩) (wr_preV (q := (RX4, TX4, 29)) hP hK hD 0 rfl rfl) rfl rfl hl.1 rfl (lv_room (Nat.le_of_ble_eq_true rfl)) dX4_port_73 ⟨Nat.zero_le _, Nat.zero_le _⟩) hS hD hA rfl (fun H locs hP hD hS => ?_)
      have hP : va_P (dC, dI) vwCl (wM cs b (un g 0 2) h) H := hP
      have hD : va_D A (wM cs b (un g 0 2) h) := hD
      refine W.eq (g2 := F0 m 76 ls (.int (nI 1) :: [])) rfl ?_
      have hB : m_bd (un g 0 2) := by (unfold m_bd un; simp; omega)
      refine lv_if_eq (tgt := 81) hx hb dX4_port_76 (by decide) (fun c => absurd c (by decide)) (fun _ => ?_)
      refine lv_iconst (v := nI 0) hx hb dX4_port_79 (by decide) ?_
      exact wr_iret hx hb hr hlocks hP hS dX4_port_80

set_option maxHeartbeats 4000000 in
set_option maxRecDepth 100000 in
theorem c_X4_port_x3 (l : Launch) (dC : Nat → ClassId) (dI : Nat → Nat → Nat) (cs : ClassId × ClassId) (b g : Nat → Nat) (h : Nat → Nat → Int32) (sz : Nat) (j : Nat) (z : Int32) (i : Nat) (hat : m_at g j = nI i) (hst : h 18 i = 0) (hbad : inB z 8 = false) (hB : m_bd g) (h1 : j < g 3) (h2 : i < g 10)  : Met l yX4_port wsX4_port ({ frames := 1, cells := 0, slots := 0, locals := 23 }) (wrPc (dC, dI) vwCl (wM cs b g h) (tyl cs) sz [.ref (b 0), .int (nI j), .int z]) (wrQ (dC, dI) vwCl (wM cs b (un g 0 3) h) (some (.int (nI 0))) (va_A (wM cs b g h) sz)) 0 0 (va_A (wM cs b g h) sz) := by
  refine wr_of (cc := cX4_port) (maxL := 5) (ret := (some .int)) (own := RX4) (by decide) rfl rfl (Nat.le_of_ble_eq_true rfl) ?_
  intro p e s m below meth c A hsz hAe hx hb hr hml hts hown hlocks hP hK hD hA hS ls hl
  have hl : lv_has ls 5 [(0, .ref (b 0)), (1, .int (nI j)), (2, .int z)] := hl
  have hinX4 : ∀ w ∈ wsX40, w ∈ wsX4_port := by decide +kernel
  obtain ⟨M1, M2, M3, M4, M5, M6, M7, M8, M9, M10, M11, M12, M13, M14, M15, M16⟩ := id hB
  refine lv_aload_n hx hb dX4_port_0 rfl (lv_at hl 0 rfl) ?_
  refine lv_iload_n hx hb dX4_port_1 rfl (lv_at hl 1 rfl) ?_
  refine W.callR (W.runV (As := [.int (nI j)]) (rest := []) ⟨hx, hb, hml, hown, hts⟩ (c_X4_isPlace l dC dI cs b g h (nI j) hB) (cwV 1 hts gX4_port_X4_isPlace rfl rfl rfl (by decide +kernel) ⟨Nat.le_of_ble_eq_true rfl, Nat.le_of_ble_eq_true rfl⟩) (rd_preV (q := (RX4, TX4, 29)) hP hK 0 rfl rfl) rfl rfl hl.1 rfl (lv_room (Nat.le_of_ble_eq_true rfl)) dX4_port_2 ⟨Nat.zero_le _, Nat.zero_le _⟩) ?_
  refine W.eq (g2 := F0 m 5 ls (.int (b2i (inB (nI j) (g 3))) :: [])) rfl ?_
  refine lv_if_eq (tgt := 16) hx hb dX4_port_5 (by decide) (fun c_1 => absurd (b2i_f c_1) (by rw [inB_nI (by omega) (by omega)]; simp; omega)) (fun c_1 => ?_)
  have c_1 : inB (nI j) (g 3) = true := b2i_t c_1
  refine lv_aload_n hx hb dX4_port_8 rfl (lv_at hl 0 rfl) ?_
  refine lv_iload_n hx hb dX4_port_9 rfl (lv_at hl 1 rfl) ?_
  refine W.callR (W.runV (As := [.int (nI j)]) (rest := []) ⟨hx, hb, hml, hown, hts⟩ (c_X4_at l dC dI cs b g h j hB (by first | omega | assumption)) (cwV 1 hts gX4_port_X4_at rfl rfl rfl (by decide +kernel) ⟨Nat.le_of_ble_eq_true rfl, Nat.le_of_ble_eq_true rfl⟩) (rd_preV (q := (RX4, TX4, 29)) hP hK 0 rfl rfl) rfl rfl hl.1 rfl (lv_room (Nat.le_of_ble_eq_true rfl)) dX4_port_10 ⟨Nat.zero_le _, Nat.zero_le _⟩) ?_
  refine W.eq (g2 := F0 m 13 ls (.int (m_at g j) :: [])) rfl ?_
  refine tp_eq hat ?_
  refine lv_goto (tgt := 17) hx hb dX4_port_13 (by decide) ?_
  refine lv_istore_n (lv' := [(3, .int (nI i)), (0, .ref (b 0)), (1, .int (nI j)), (2, .int z)]) hx hb dX4_port_17 rfl hl (by decide) rfl (fun ls hl => ?_)
  refine lv_aload_n hx hb dX4_port_18 rfl (lv_at hl 1 rfl) ?_
  refine lv_aload_n hx hb dX4_port_19 rfl (lv_at hl 1 rfl) ?_
  refine lv_iload_n hx hb dX4_port_20 rfl (lv_at hl 2 rfl) ?_
  refine W.callR (W.runV (As := [.int (nI j)]) (rest := [.ref (b 0)]) ⟨hx, hb, hml, hown, hts⟩ (c_X4_isPlace l dC dI cs b g h (nI j) hB) (cwV 1 hts gX4_port_X4_isPlace rfl rfl rfl (by decide +kernel) ⟨Nat.le_of_ble_eq_true rfl, Nat.le_of_ble_eq_true rfl⟩) (rd_preV (q := (RX4, TX4, 29)) hP hK 0 rfl rfl) rfl rfl hl.1 rfl (lv_room (Nat.le_of_ble_eq_true rfl)) dX4_port_21 ⟨Nat.zero_le _, Nat.zero_le _⟩) ?_
  refine W.eq (g2 := F0 m 24 ls (.int (b2i (inB (nI j) (g 3))) :: [.ref (b 0)])) rfl ?_
  refine lv_if_ne (tgt := 31) hx hb dX4_port_24 (by decide) (fun c_2 => ?_) (fun c_2 => absurd (b2i_f c_2) (by rw [inB_nI (by omega) (by omega)]; simp; omega))
  have c_2 : inB (nI j) (g 3) = true := b2i_t c_2
  refine lv_iconst (v := nI 0) hx hb dX4_port_31 (by decide) ?_
  refine lv_iload_n hx hb dX4_port_32 rfl (lv_at hl 0 rfl) ?_
  refine lv_if_lt (tgt := 53) hx hb dX4_port_33 (by decide) (fun c => absurd c (nI_pos (by omega))) (fun _ => ?_)
  refine lv_aload_n hx hb dX4_port_36 rfl (lv_at hl 1 rfl) ?_
  refine va_get (D := (dC, dI)) (ci := 5) (v := .ref (b 18)) (C := RX4) (T := TX4) (N := 29) hx hb hts hinX4 hown hK hP 0 rfl rfl 18 (by decide) (hts (.fieldLink RX4 44 "RenameRowsModel" "state" "[I") (by decide +kernel)) (fun _ h9 => h9) rfl dX4_port_37 ?_
  refine lv_iload_n hx hb dX4_port_40 rfl (lv_at hl 0 rfl) ?_
  refine lv_if_ge (tgt := 48) hx hb dX4_port_41 (by decide) (fun _ => ?_) (fun c => absurd (nI_pos' (by omega)) c)
  refine lv_iload_n hx hb dX4_port_48 rfl (lv_at hl 0 rfl) ?_
  refine ar_ld (D := (dC, dI)) (n := 64) (f := h 18) hx hb hK hP 12 0 rfl rfl (by omega) (by omega) dX4_port_49 ?_
  refine lv_if_eq (tgt := 57) hx hb dX4_port_50 (by decide) (fun c_5 => ?_) (fun c_5 => absurd hst c_5)
  refine lv_iconst (v := nI 0) hx hb dX4_port_57 (by decide) ?_
  refine lv_iload_n hx hb dX4_port_58 rfl (lv_at hl 3 rfl) ?_
  refine lv_if_lt (tgt := 68) hx hb dX4_port_59 (by decide) (fun c_6 => ?_) (fun c_6 => ?_)
  · refine lv_iconst (v := nI 1) hx hb dX4_port_68 (by decide) ?_
    refine lv_goto (tgt := 73) hx hb dX4_port_69 (by decide) ?_
    refine wr_calli (va_runV (As := [.int (nI 0), .int (nI 0), .int (nI 1)]) (rest := []) ⟨hx, hb, hml, hown, hts⟩ (c_X4_throwing l dC dI cs b g h s.heap.size 0 0 1 hB (by decide) (by decide) (by decide)) (cwV 3 hts gX4_port_X4_throwing rfl rfl rfl (by decide +kernel) ⟨Nat.le_of_ble_eq_true rfl, Nat.le_of_ble_eq_true rfl⟩) (wr_preV (q := (RX4, TX4, 29)) hP hK hD 0 rfl rfl) rfl rfl hl.1 rfl (lv_room (Nat.le_of_ble_eq_true rfl)) dX4_port_73 ⟨Nat.zero_le _, Nat.zero_le _⟩) hS hD hA rfl (fun H locs hP hD hS => ?_)
    have hP : va_P (dC, dI) vwCl (wM cs b (un g 0 3) h) H := hP
    have hD : va_D A (wM cs b (un g 0 3) h) := hD
    refine W.eq (g2 := F0 m 76 ls (.int (nI 1) :: [])) rfl ?_
    have hB : m_bd (un g 0 3) := by (unfold m_bd un; simp; omega)
    refine lv_if_eq (tgt := 81) hx hb dX4_port_76 (by decide) (fun c => absurd c (by decide)) (fun _ => ?_)
    refine lv_iconst (v := nI 0) hx hb dX4_port_79 (by decide) ?_
    exact wr_iret hx hb hr hlocks hP hS dX4_port_80
  · refine lv_iload_n hx hb dX4_port_62 rfl (lv_at hl 3 rfl) ?_
    refine lv_bipush (v := nI 7) hx hb dX4_port_63 (by decide) ?_
    refine lv_icmp_le (tgt := 72) hx hb dX4_port_65 (by decide) (fun c_8 => ?_) (fun c_8 => ?_)
    · have q9 := inB_in c_6 (le7 c_8); rw [hbad] at q9; cases q9
    · refine lv_iconst (v := nI 1) hx hb dX4_port_68 (by decide) ?_
      refine lv_goto (tgt := 73) hx hb dX4_port_69 (by decide) ?_
      refine wr_calli (va_runV (As := [.int (nI 0), .int (nI 0), .int (nI 1)]) (rest := []) ⟨hx, hb, hml, hown, hts⟩ (c_X4_throwing l dC dI cs b g h s.heap.size 0 0 1 hB (by decide) (by decide) (by decide)) (cwV 3 hts gX4_port_X4_throwing rfl rfl rfl (by decide +kernel) ⟨Nat.le_of_ble_eq_true rfl, Nat.le_of_ble_eq_true rfl⟩) (wr_preV (q := (RX4, TX4, 29)) hP hK hD 0 rfl rfl) rfl rfl hl.1 rfl (lv_room (Nat.le_of_ble_eq_true rfl)) dX4_port_73 ⟨Nat.zero_le _, Nat.zero_le _⟩) hS hD hA rfl (fun H locs hP hD hS => ?_)
      have hP : va_P (dC, dI) vwCl (wM cs b (un g 0 3) h) H := hP
      have hD : va_D A (wM cs b (un g 0 3) h) := hD
      refine W.eq (g2 := F0 m 76 ls (.int (nI 1) :: [])) rfl ?_
      have hB : m_bd (un g 0 3) := by (unfold m_bd un; simp; omega)
      refine lv_if_eq (tgt := 81) hx hb dX4_port_76 (by decide) (fun c => absurd c (by decide)) (fun _ => ?_)
      refine lv_iconst (v := nI 0) hx hb dX4_port_79 (by decide) ?_
      exact wr_iret hx hb hr hlocks hP hS dX4_port_80

set_option maxHeartbeats 4000000 in
set_option maxRecDepth 100000 in
theorem c_X4_port_v (l : Launch) (dC : Nat → ClassId) (dI : Nat → Nat → Nat) (cs : ClassId × ClassId) (b g : Nat → Nat) (h : Nat → Nat → Int32) (sz : Nat) (j : Nat) (kp : Nat) (i : Nat) (hat : m_at g j = nI i) (hst : h 18 i = 0) (hB : m_bd g) (h1 : j < g 3) (h2 : i < g 10) (h3 : kp < 8)  : Met l yX4_port wsX4_port ({ frames := 1, cells := 0, slots := 0, locals := 23 }) (wrPc (dC, dI) vwCl (wM cs b g h) (tyl cs) sz [.ref (b 0), .int (nI j), .int (nI kp)]) (wrQ (dC, dI) vwCl (wM cs b (un g 0 0) (uf h 17 (upd (h 17) i (nI kp)))) (some (.int (h 17 i))) (va_A (wM cs b g h) sz)) 0 0 (va_A (wM cs b g h) sz) := by
  refine wr_of (cc := cX4_port) (maxL := 5) (ret := (some .int)) (own := RX4) (by decide) rfl rfl (Nat.le_of_ble_eq_true rfl) ?_
  intro p e s m below meth c A hsz hAe hx hb hr hml hts hown hlocks hP hK hD hA hS ls hl
  have hl : lv_has ls 5 [(0, .ref (b 0)), (1, .int (nI j)), (2, .int (nI kp))] := hl
  have hinX4 : ∀ w ∈ wsX40, w ∈ wsX4_port := by decide +kernel
  obtain ⟨M1, M2, M3, M4, M5, M6, M7, M8, M9, M10, M11, M12, M13, M14, M15, M16⟩ := id hB
  refine lv_aload_n hx hb dX4_port_0 rfl (lv_at hl 0 rfl) ?_
  refine lv_iload_n hx hb dX4_port_1 rfl (lv_at hl 1 rfl) ?_
  refine W.callR (W.runV (As := [.int (nI j)]) (rest := []) ⟨hx, hb, hml, hown, hts⟩ (c_X4_isPlace l dC dI cs b g h (nI j) hB) (cwV 1 hts gX4_port_X4_isPlace rfl rfl rfl (by decide +kernel) ⟨Nat.le_of_ble_eq_true rfl, Nat.le_of_ble_eq_true rfl⟩) (rd_preV (q := (RX4, TX4, 29)) hP hK 0 rfl rfl) rfl rfl hl.1 rfl (lv_room (Nat.le_of_ble_eq_true rfl)) dX4_port_2 ⟨Nat.zero_le _, Nat.zero_le _⟩) ?_
  refine W.eq (g2 := F0 m 5 ls (.int (b2i (inB (nI j) (g 3))) :: [])) rfl ?_
  refine lv_if_eq (tgt := 16) hx hb dX4_port_5 (by decide) (fun c_1 => absurd (b2i_f c_1) (by rw [inB_nI (by omega) (by omega)]; simp; omega)) (fun c_1 => ?_)
  have c_1 : inB (nI j) (g 3) = true := b2i_t c_1
  refine lv_aload_n hx hb dX4_port_8 rfl (lv_at hl 0 rfl) ?_
  refine lv_iload_n hx hb dX4_port_9 rfl (lv_at hl 1 rfl) ?_
  refine W.callR (W.runV (As := [.int (nI j)]) (rest := []) ⟨hx, hb, hml, hown, hts⟩ (c_X4_at l dC dI cs b g h j hB (by first | omega | assumption)) (cwV 1 hts gX4_port_X4_at rfl rfl rfl (by decide +kernel) ⟨Nat.le_of_ble_eq_true rfl, Nat.le_of_ble_eq_true rfl⟩) (rd_preV (q := (RX4, TX4, 29)) hP hK 0 rfl rfl) rfl rfl hl.1 rfl (lv_room (Nat.le_of_ble_eq_true rfl)) dX4_port_10 ⟨Nat.zero_le _, Nat.zero_le _⟩) ?_
  refine W.eq (g2 := F0 m 13 ls (.int (m_at g j) :: [])) rfl ?_
  refine tp_eq hat ?_
  refine lv_goto (tgt := 17) hx hb dX4_port_13 (by decide) ?_
  refine lv_istore_n (lv' := [(3, .int (nI i)), (0, .ref (b 0)), (1, .int (nI j)), (2, .int (nI kp))]) hx hb dX4_port_17 rfl hl (by decide) rfl (fun ls hl => ?_)
  refine lv_aload_n hx hb dX4_port_18 rfl (lv_at hl 1 rfl) ?_
  refine lv_aload_n hx hb dX4_port_19 rfl (lv_at hl 1 rfl) ?_
  refine lv_iload_n hx hb dX4_port_20 rfl (lv_at hl 2 rfl) ?_
  refine W.callR (W.runV (As := [.int (nI j)]) (rest := [.ref (b 0)]) ⟨hx, hb, hml, hown, hts⟩ (c_X4_isPlace l dC dI cs b g h (nI j) hB) (cwV 1 hts gX4_port_X4_isPlace rfl rfl rfl (by decide +kernel) ⟨Nat.le_of_ble_eq_true rfl, Nat.le_of_ble_eq_true rfl⟩) (rd_preV (q := (RX4, TX4, 29)) hP hK 0 rfl rfl) rfl rfl hl.1 rfl (lv_room (Nat.le_of_ble_eq_true rfl)) dX4_port_21 ⟨Nat.zero_le _, Nat.zero_le _⟩) ?_
  refine W.eq (g2 := F0 m 24 ls (.int (b2i (inB (nI j) (g 3))) :: [.ref (b 0)])) rfl ?_
  refine lv_if_ne (tgt := 31) hx hb dX4_port_24 (by decide) (fun c_2 => ?_) (fun c_2 => absurd (b2i_f c_2) (by rw [inB_nI (by omega) (by omega)]; simp; omega))
  have c_2 : inB (nI j) (g 3) = true := b2i_t c_2
  refine lv_iconst (v := nI 0) hx hb dX4_port_31 (by decide) ?_
  refine lv_iload_n hx hb dX4_port_32 rfl (lv_at hl 0 rfl) ?_
  refine lv_if_lt (tgt := 53) hx hb dX4_port_33 (by decide) (fun c => absurd c (nI_pos (by omega))) (fun _ => ?_)
  refine lv_aload_n hx hb dX4_port_36 rfl (lv_at hl 1 rfl) ?_
  refine va_get (D := (dC, dI)) (ci := 5) (v := .ref (b 18)) (C := RX4) (T := TX4) (N := 29) hx hb hts hinX4 hown hK hP 0 rfl rfl 18 (by decide) (hts (.fieldLink RX4 44 "RenameRowsModel" "state" "[I") (by decide +kernel)) (fun _ h9 => h9) rfl dX4_port_37 ?_
  refine lv_iload_n hx hb dX4_port_40 rfl (lv_at hl 0 rfl) ?_
  refine lv_if_ge (tgt := 48) hx hb dX4_port_41 (by decide) (fun _ => ?_) (fun c => absurd (nI_pos' (by omega)) c)
  refine lv_iload_n hx hb dX4_port_48 rfl (lv_at hl 0 rfl) ?_
  refine ar_ld (D := (dC, dI)) (n := 64) (f := h 18) hx hb hK hP 12 0 rfl rfl (by omega) (by omega) dX4_port_49 ?_
  refine lv_if_eq (tgt := 57) hx hb dX4_port_50 (by decide) (fun c_5 => ?_) (fun c_5 => absurd hst c_5)
  refine lv_iconst (v := nI 0) hx hb dX4_port_57 (by decide) ?_
  refine lv_iload_n hx hb dX4_port_58 rfl (lv_at hl 3 rfl) ?_
  refine lv_if_lt (tgt := 68) hx hb dX4_port_59 (by decide) (fun c => absurd c (nI_pos (by omega))) (fun _ => ?_)
  refine lv_iload_n hx hb dX4_port_62 rfl (lv_at hl 3 rfl) ?_
  refine lv_bipush (v := nI 7) hx hb dX4_port_63 (by decide) ?_
  refine lv_icmp_le (tgt := 72) hx hb dX4_port_65 (by decide) (fun c_7 => ?_) (fun c_7 => absurd (nI_le (by omega) (by omega)) c_7)
  have c_7 : kp ≤ 7 := (nI_leI (by omega) (by omega)).mp c_7
  refine lv_iconst (v := nI 0) hx hb dX4_port_72 (by decide) ?_
  refine wr_calli (va_runV (As := [.int (nI 0), .int (nI 0), .int (nI 0)]) (rest := []) ⟨hx, hb, hml, hown, hts⟩ (c_X4_throwing l dC dI cs b g h s.heap.size 0 0 0 hB (by decide) (by decide) (by decide)) (cwV 3 hts gX4_port_X4_throwing rfl rfl rfl (by decide +kernel) ⟨Nat.le_of_ble_eq_true rfl, Nat.le_of_ble_eq_true rfl⟩) (wr_preV (q := (RX4, TX4, 29)) hP hK hD 0 rfl rfl) rfl rfl hl.1 rfl (lv_room (Nat.le_of_ble_eq_true rfl)) dX4_port_73 ⟨Nat.zero_le _, Nat.zero_le _⟩) hS hD hA rfl (fun H locs hP hD hS => ?_)
  have hP : va_P (dC, dI) vwCl (wM cs b (un g 0 0) h) H := hP
  have hD : va_D A (wM cs b (un g 0 0) h) := hD
  refine W.eq (g2 := F0 m 76 ls (.int (nI 0) :: [])) rfl ?_
  have hB : m_bd (un g 0 0) := by (unfold m_bd un; simp; omega)
  refine lv_if_eq (tgt := 81) hx hb dX4_port_76 (by decide) (fun _ => ?_) (fun c => absurd (by decide) c)
  refine lv_aload_n hx hb dX4_port_81 rfl (lv_at hl 1 rfl) ?_
  refine va_get (D := (dC, dI)) (ci := 5) (v := .ref (b 17)) (C := RX4) (T := TX4) (N := 29) hx hb hts hinX4 hown hK hP 0 rfl rfl 17 (by decide) (hts (.fieldLink RX4 41 "RenameRowsModel" "ports" "[I") (by decide +kernel)) (fun _ h9 => h9) rfl dX4_port_82 ?_
  refine lv_iload_n hx hb dX4_port_85 rfl (lv_at hl 0 rfl) ?_
  refine ar_ld (D := (dC, dI)) (n := 64) (f := h 17) hx hb hK hP 11 0 rfl rfl (by omega) (by omega) dX4_port_86 ?_
  refine lv_istore (lv' := [(4, .int (h 17 i)), (3, .int (nI i)), (0, .ref (b 0)), (1, .int (nI j)), (2, .int (nI kp))]) hx hb dX4_port_87 hl (by decide) rfl (fun ls hl => ?_)
  refine lv_aload_n hx hb dX4_port_89 rfl (lv_at hl 2 rfl) ?_
  refine va_get (D := (dC, dI)) (ci := 5) (v := .ref (b 17)) (C := RX4) (T := TX4) (N := 29) hx hb hts hinX4 hown hK hP 0 rfl rfl 17 (by decide) (hts (.fieldLink RX4 41 "RenameRowsModel" "ports" "[I") (by decide +kernel)) (fun _ h9 => h9) rfl dX4_port_90 ?_
  refine lv_iload_n hx hb dX4_port_93 rfl (lv_at hl 1 rfl) ?_
  refine lv_iload_n hx hb dX4_port_94 rfl (lv_at hl 4 rfl) ?_
  refine ar_st (D := (dC, dI)) (n := 64) (f := h 17) hx hb hK hP hD hS 11 0 rfl rfl (by omega) (by omega) dX4_port_95 (fun H locs hP hD hS => ?_)
  have hP : va_P (dC, dI) vwCl (wM cs b (un g 0 0) (uf h 17 (upd (h 17) i (nI kp)))) H := hP
  have hD : va_D A (wM cs b (un g 0 0) (uf h 17 (upd (h 17) i (nI kp)))) := hD
  refine lv_iload hx hb dX4_port_96 (lv_at hl 0 rfl) ?_
  exact wr_iret hx hb hr hlocks hP hS dX4_port_98

set_option maxHeartbeats 4000000 in
set_option maxRecDepth 100000 in
theorem c_X4_end_x1 (l : Launch) (dC : Nat → ClassId) (dI : Nat → Nat → Nat) (cs : ClassId × ClassId) (b g : Nat → Nat) (h : Nat → Nat → Int32) (sz : Nat) (y : Int32) (hbad : inB y (g 3) = false) (hB : m_bd g)  : Met l yX4_end wsX4_end ({ frames := 1, cells := 0, slots := 0, locals := 23 }) (wrPc (dC, dI) vwCl (wM cs b g h) (tyl cs) sz [.ref (b 0), .int y]) (wrQ (dC, dI) vwCl (wM cs b (un g 0 1) h) (some (.int (nI 0))) (va_A (wM cs b g h) sz)) 0 0 (va_A (wM cs b g h) sz) := by
  refine wr_of (cc := cX4_end) (maxL := 4) (ret := (some .int)) (own := RX4) (by decide) rfl rfl (Nat.le_of_ble_eq_true rfl) ?_
  intro p e s m below meth c A hsz hAe hx hb hr hml hts hown hlocks hP hK hD hA hS ls hl
  have hl : lv_has ls 4 [(0, .ref (b 0)), (1, .int y)] := hl
  obtain ⟨M1, M2, M3, M4, M5, M6, M7, M8, M9, M10, M11, M12, M13, M14, M15, M16⟩ := id hB
  refine lv_aload_n hx hb dX4_end_0 rfl (lv_at hl 0 rfl) ?_
  refine lv_iload_n hx hb dX4_end_1 rfl (lv_at hl 1 rfl) ?_
  refine W.callR (W.runV (As := [.int y]) (rest := []) ⟨hx, hb, hml, hown, hts⟩ (c_X4_isPlace l dC dI cs b g h y hB) (cwV 1 hts gX4_end_X4_isPlace rfl rfl rfl (by decide +kernel) ⟨Nat.le_of_ble_eq_true rfl, Nat.le_of_ble_eq_true rfl⟩) (rd_preV (q := (RX4, TX4, 29)) hP hK 0 rfl rfl) rfl rfl hl.1 rfl (lv_room (Nat.le_of_ble_eq_true rfl)) dX4_end_2 ⟨Nat.zero_le _, Nat.zero_le _⟩) ?_
  refine W.eq (g2 := F0 m 5 ls (.int (b2i (inB y (g 3))) :: [])) rfl ?_
  refine lv_if_eq (tgt := 16) hx hb dX4_end_5 (by decide) (fun c_1 => ?_) (fun c_1 => absurd (b2i_t c_1) (by rw [hbad]; decide))
  have c_1 : inB y (g 3) = false := b2i_f c_1
  refine lv_iconst (v := (-1)) hx hb dX4_end_16 (by decide) ?_
  refine lv_istore_n (lv' := [(2, .int (-1)), (0, .ref (b 0)), (1, .int y)]) hx hb dX4_end_17 rfl hl (by decide) rfl (fun ls hl => ?_)
  refine lv_aload_n hx hb dX4_end_18 rfl (lv_at hl 1 rfl) ?_
  refine lv_aload_n hx hb dX4_end_19 rfl (lv_at hl 1 rfl) ?_
  refine lv_iload_n hx hb dX4_end_20 rfl (lv_at hl 2 rfl) ?_
  refine W.callR (W.runV (As := [.int y]) (rest := [.ref (b 0)]) ⟨hx, hb, hml, hown, hts⟩ (c_X4_isPlace l dC dI cs b g h y hB) (cwV 1 hts gX4_end_X4_isPlace rfl rfl rfl (by decide +kernel) ⟨Nat.le_of_ble_eq_true rfl, Nat.le_of_ble_eq_true rfl⟩) (rd_preV (q := (RX4, TX4, 29)) hP hK 0 rfl rfl) rfl rfl hl.1 rfl (lv_room (Nat.le_of_ble_eq_true rfl)) dX4_end_21 ⟨Nat.zero_le _, Nat.zero_le _⟩) ?_
  refine W.eq (g2 := F0 m 24 ls (.int (b2i (inB y (g 3))) :: [.ref (b 0)])) rfl ?_
  refine lv_if_ne (tgt := 31) hx hb dX4_end_24 (by decide) (fun c_2 => absurd (b2i_t c_2) (by rw [hbad]; decide)) (fun c_2 => ?_)
  have c_2 : inB y (g 3) = false := b2i_f c_2
  refine lv_iconst (v := nI 1) hx hb dX4_end_27 (by decide) ?_
  refine lv_goto (tgt := 32) hx hb dX4_end_28 (by decide) ?_
  refine lv_iload_n hx hb dX4_end_32 rfl (lv_at hl 0 rfl) ?_
  refine lv_if_lt (tgt := 54) hx hb dX4_end_33 (by decide) (fun _ => ?_) (fun c => absurd (by decide) c)
  refine lv_iconst (v := nI 1) hx hb dX4_end_54 (by decide) ?_
  refine lv_goto (tgt := 59) hx hb dX4_end_55 (by decide) ?_
  refine lv_iconst (v := nI 0) hx hb dX4_end_59 (by decide) ?_
  refine wr_calli (va_runV (As := [.int (nI 1), .int (nI 1), .int (nI 0)]) (rest := []) ⟨hx, hb, hml, hown, hts⟩ (c_X4_throwing l dC dI cs b g h s.heap.size 1 1 0 hB (by decide) (by decide) (by decide)) (cwV 3 hts gX4_end_X4_throwing rfl rfl rfl (by decide +kernel) ⟨Nat.le_of_ble_eq_true rfl, Nat.le_of_ble_eq_true rfl⟩) (wr_preV (q := (RX4, TX4, 29)) hP hK hD 0 rfl rfl) rfl rfl hl.1 rfl (lv_room (Nat.le_of_ble_eq_true rfl)) dX4_end_60 ⟨Nat.zero_le _, Nat.zero_le _⟩) hS hD hA rfl (fun H locs hP hD hS => ?_)
  have hP : va_P (dC, dI) vwCl (wM cs b (un g 0 1) h) H := hP
  have hD : va_D A (wM cs b (un g 0 1) h) := hD
  refine W.eq (g2 := F0 m 63 ls (.int (nI 1) :: [])) rfl ?_
  have hB : m_bd (un g 0 1) := by (unfold m_bd un; simp; omega)
  refine lv_if_eq (tgt := 68) hx hb dX4_end_63 (by decide) (fun c => absurd c (by decide)) (fun _ => ?_)
  refine lv_iconst (v := nI 0) hx hb dX4_end_66 (by decide) ?_
  exact wr_iret hx hb hr hlocks hP hS dX4_end_67

set_option maxHeartbeats 4000000 in
set_option maxRecDepth 100000 in
theorem c_X4_end_x2a (l : Launch) (dC : Nat → ClassId) (dI : Nat → Nat → Nat) (cs : ClassId × ClassId) (b g : Nat → Nat) (h : Nat → Nat → Int32) (sz : Nat) (j : Nat) (hat : m_at g j = -1) (hB : m_bd g) (h1 : j < g 3)  : Met l yX4_end wsX4_end ({ frames := 1, cells := 0, slots := 0, locals := 23 }) (wrPc (dC, dI) vwCl (wM cs b g h) (tyl cs) sz [.ref (b 0), .int (nI j)]) (wrQ (dC, dI) vwCl (wM cs b (un g 0 2) h) (some (.int (nI 0))) (va_A (wM cs b g h) sz)) 0 0 (va_A (wM cs b g h) sz) := by
  refine wr_of (cc := cX4_end) (maxL := 4) (ret := (some .int)) (own := RX4) (by decide) rfl rfl (Nat.le_of_ble_eq_true rfl) ?_
  intro p e s m below meth c A hsz hAe hx hb hr hml hts hown hlocks hP hK hD hA hS ls hl
  have hl : lv_has ls 4 [(0, .ref (b 0)), (1, .int (nI j))] := hl
  obtain ⟨M1, M2, M3, M4, M5, M6, M7, M8, M9, M10, M11, M12, M13, M14, M15, M16⟩ := id hB
  refine lv_aload_n hx hb dX4_end_0 rfl (lv_at hl 0 rfl) ?_
  refine lv_iload_n hx hb dX4_end_1 rfl (lv_at hl 1 rfl) ?_
  refine W.callR (W.runV (As := [.int (nI j)]) (rest := []) ⟨hx, hb, hml, hown, hts⟩ (c_X4_isPlace l dC dI cs b g h (nI j) hB) (cwV 1 hts gX4_end_X4_isPlace rfl rfl rfl (by decide +kernel) ⟨Nat.le_of_ble_eq_true rfl, Nat.le_of_ble_eq_true rfl⟩) (rd_preV (q := (RX4, TX4, 29)) hP hK 0 rfl rfl) rfl rfl hl.1 rfl (lv_room (Nat.le_of_ble_eq_true rfl)) dX4_end_2 ⟨Nat.zero_le _, Nat.zero_le _⟩) ?_
  refine W.eq (g2 := F0 m 5 ls (.int (b2i (inB (nI j) (g 3))) :: [])) rfl ?_
  refine lv_if_eq (tgt := 16) hx hb dX4_end_5 (by decide) (fun c_1 => absurd (b2i_f c_1) (by rw [inB_nI (by omega) (by omega)]; simp; omega)) (fun c_1 => ?_)
  have c_1 : inB (nI j) (g 3) = true := b2i_t c_1
  refine lv_aload_n hx hb dX4_end_8 rfl (lv_at hl 0 rfl) ?_
  refine lv_iload_n hx hb dX4_end_9 rfl (lv_at hl 1 rfl) ?_
  refine W.callR (W.runV (As := [.int (nI j)]) (rest := []) ⟨hx, hb, hml, hown, hts⟩ (c_X4_at l dC dI cs b g h j hB (by first | omega | assumption)) (cwV 1 hts gX4_end_X4_at rfl rfl rfl (by decide +kernel) ⟨Nat.le_of_ble_eq_true rfl, Nat.le_of_ble_eq_true rfl⟩) (rd_preV (q := (RX4, TX4, 29)) hP hK 0 rfl rfl) rfl rfl hl.1 rfl (lv_room (Nat.le_of_ble_eq_true rfl)) dX4_end_10 ⟨Nat.zero_le _, Nat.zero_le _⟩) ?_
  refine W.eq (g2 := F0 m 13 ls (.int (m_at g j) :: [])) rfl ?_
  refine tp_eq hat ?_
  refine lv_goto (tgt := 17) hx hb dX4_end_13 (by decide) ?_
  refine lv_istore_n (lv' := [(2, .int (-1)), (0, .ref (b 0)), (1, .int (nI j))]) hx hb dX4_end_17 rfl hl (by decide) rfl (fun ls hl => ?_)
  refine lv_aload_n hx hb dX4_end_18 rfl (lv_at hl 1 rfl) ?_
  refine lv_aload_n hx hb dX4_end_19 rfl (lv_at hl 1 rfl) ?_
  refine lv_iload_n hx hb dX4_end_20 rfl (lv_at hl 2 rfl) ?_
  refine W.callR (W.runV (As := [.int (nI j)]) (rest := [.ref (b 0)]) ⟨hx, hb, hml, hown, hts⟩ (c_X4_isPlace l dC dI cs b g h (nI j) hB) (cwV 1 hts gX4_end_X4_isPlace rfl rfl rfl (by decide +kernel) ⟨Nat.le_of_ble_eq_true rfl, Nat.le_of_ble_eq_true rfl⟩) (rd_preV (q := (RX4, TX4, 29)) hP hK 0 rfl rfl) rfl rfl hl.1 rfl (lv_room (Nat.le_of_ble_eq_true rfl)) dX4_end_21 ⟨Nat.zero_le _, Nat.zero_le _⟩) ?_
  refine W.eq (g2 := F0 m 24 ls (.int (b2i (inB (nI j) (g 3))) :: [.ref (b 0)])) rfl ?_
  refine lv_if_ne (tgt := 31) hx hb dX4_end_24 (by decide) (fun c_2 => ?_) (fun c_2 => absurd (b2i_f c_2) (by rw [inB_nI (by omega) (by omega)]; simp; omega))
  have c_2 : inB (nI j) (g 3) = true := b2i_t c_2
  refine lv_iconst (v := nI 0) hx hb dX4_end_31 (by decide) ?_
  refine lv_iload_n hx hb dX4_end_32 rfl (lv_at hl 0 rfl) ?_
  refine lv_if_lt (tgt := 54) hx hb dX4_end_33 (by decide) (fun _ => ?_) (fun c => absurd (by decide) c)
  refine lv_iconst (v := nI 1) hx hb dX4_end_54 (by decide) ?_
  refine lv_goto (tgt := 59) hx hb dX4_end_55 (by decide) ?_
  refine lv_iconst (v := nI 0) hx hb dX4_end_59 (by decide) ?_
  refine wr_calli (va_runV (As := [.int (nI 0), .int (nI 1), .int (nI 0)]) (rest := []) ⟨hx, hb, hml, hown, hts⟩ (c_X4_throwing l dC dI cs b g h s.heap.size 0 1 0 hB (by decide) (by decide) (by decide)) (cwV 3 hts gX4_end_X4_throwing rfl rfl rfl (by decide +kernel) ⟨Nat.le_of_ble_eq_true rfl, Nat.le_of_ble_eq_true rfl⟩) (wr_preV (q := (RX4, TX4, 29)) hP hK hD 0 rfl rfl) rfl rfl hl.1 rfl (lv_room (Nat.le_of_ble_eq_true rfl)) dX4_end_60 ⟨Nat.zero_le _, Nat.zero_le _⟩) hS hD hA rfl (fun H locs hP hD hS => ?_)
  have hP : va_P (dC, dI) vwCl (wM cs b (un g 0 2) h) H := hP
  have hD : va_D A (wM cs b (un g 0 2) h) := hD
  refine W.eq (g2 := F0 m 63 ls (.int (nI 1) :: [])) rfl ?_
  have hB : m_bd (un g 0 2) := by (unfold m_bd un; simp; omega)
  refine lv_if_eq (tgt := 68) hx hb dX4_end_63 (by decide) (fun c => absurd c (by decide)) (fun _ => ?_)
  refine lv_iconst (v := nI 0) hx hb dX4_end_66 (by decide) ?_
  exact wr_iret hx hb hr hlocks hP hS dX4_end_67

set_option maxHeartbeats 4000000 in
set_option maxRecDepth 100000 in
theorem c_X4_end_x2b (l : Launch) (dC : Nat → ClassId) (dI : Nat → Nat → Nat) (cs : ClassId × ClassId) (b g : Nat → Nat) (h : Nat → Nat → Int32) (sz : Nat) (j : Nat) (i : Nat) (hat : m_at g j = nI i) (hst : ¬ h 18 i = nI 1) (hB : m_bd g) (h1 : j < g 3) (h2 : i < g 10)  : Met l yX4_end wsX4_end ({ frames := 1, cells := 0, slots := 0, locals := 23 }) (wrPc (dC, dI) vwCl (wM cs b g h) (tyl cs) sz [.ref (b 0), .int (nI j)]) (wrQ (dC, dI) vwCl (wM cs b (un g 0 2) h) (some (.int (nI 0))) (va_A (wM cs b g h) sz)) 0 0 (va_A (wM cs b g h) sz) := by
  refine wr_of (cc := cX4_end) (maxL := 4) (ret := (some .int)) (own := RX4) (by decide) rfl rfl (Nat.le_of_ble_eq_true rfl) ?_
  intro p e s m below meth c A hsz hAe hx hb hr hml hts hown hlocks hP hK hD hA hS ls hl
  have hl : lv_has ls 4 [(0, .ref (b 0)), (1, .int (nI j))] := hl
  have hinX4 : ∀ w ∈ wsX40, w ∈ wsX4_end := by decide +kernel
  obtain ⟨M1, M2, M3, M4, M5, M6, M7, M8, M9, M10, M11, M12, M13, M14, M15, M16⟩ := id hB
  refine lv_aload_n hx hb dX4_end_0 rfl (lv_at hl 0 rfl) ?_
  refine lv_iload_n hx hb dX4_end_1 rfl (lv_at hl 1 rfl) ?_
  refine W.callR (W.runV (As := [.int (nI j)]) (rest := []) ⟨hx, hb, hml, hown, hts⟩ (c_X4_isPlace l dC dI cs b g h (nI j) hB) (cwV 1 hts gX4_end_X4_isPlace rfl rfl rfl (by decide +kernel) ⟨Nat.le_of_ble_eq_true rfl, Nat.le_of_ble_eq_true rfl⟩) (rd_preV (q := (RX4, TX4, 29)) hP hK 0 rfl rfl) rfl rfl hl.1 rfl (lv_room (Nat.le_of_ble_eq_true rfl)) dX4_end_2 ⟨Nat.zero_le _, Nat.zero_le _⟩) ?_
  refine W.eq (g2 := F0 m 5 ls (.int (b2i (inB (nI j) (g 3))) :: [])) rfl ?_
  refine lv_if_eq (tgt := 16) hx hb dX4_end_5 (by decide) (fun c_1 => absurd (b2i_f c_1) (by rw [inB_nI (by omega) (by omega)]; simp; omega)) (fun c_1 => ?_)
  have c_1 : inB (nI j) (g 3) = true := b2i_t c_1
  refine lv_aload_n hx hb dX4_end_8 rfl (lv_at hl 0 rfl) ?_
  refine lv_iload_n hx hb dX4_end_9 rfl (lv_at hl 1 rfl) ?_
  refine W.callR (W.runV (As := [.int (nI j)]) (rest := []) ⟨hx, hb, hml, hown, hts⟩ (c_X4_at l dC dI cs b g h j hB (by first | omega | assumption)) (cwV 1 hts gX4_end_X4_at rfl rfl rfl (by decide +kernel) ⟨Nat.le_of_ble_eq_true rfl, Nat.le_of_ble_eq_true rfl⟩) (rd_preV (q := (RX4, TX4, 29)) hP hK 0 rfl rfl) rfl rfl hl.1 rfl (lv_room (Nat.le_of_ble_eq_true rfl)) dX4_end_10 ⟨Nat.zero_le _, Nat.zero_le _⟩) ?_
  refine W.eq (g2 := F0 m 13 ls (.int (m_at g j) :: [])) rfl ?_
  refine tp_eq hat ?_
  refine lv_goto (tgt := 17) hx hb dX4_end_13 (by decide) ?_
  refine lv_istore_n (lv' := [(2, .int (nI i)), (0, .ref (b 0)), (1, .int (nI j))]) hx hb dX4_end_17 rfl hl (by decide) rfl (fun ls hl => ?_)
  refine lv_aload_n hx hb dX4_end_18 rfl (lv_at hl 1 rfl) ?_
  refine lv_aload_n hx hb dX4_end_19 rfl (lv_at hl 1 rfl) ?_
  refine lv_iload_n hx hb dX4_end_20 rfl (lv_at hl 2 rfl) ?_
  refine W.callR (W.runV (As := [.int (nI j)]) (rest := [.ref (b 0)]) ⟨hx, hb, hml, hown, hts⟩ (c_X4_isPlace l dC dI cs b g h (nI j) hB) (cwV 1 hts gX4_end_X4_isPlace rfl rfl rfl (by decide +kernel) ⟨Nat.le_of_ble_eq_true rfl, Nat.le_of_ble_eq_true rfl⟩) (rd_preV (q := (RX4, TX4, 29)) hP hK 0 rfl rfl) rfl rfl hl.1 rfl (lv_room (Nat.le_of_ble_eq_true rfl)) dX4_end_21 ⟨Nat.zero_le _, Nat.zero_le _⟩) ?_
  refine W.eq (g2 := F0 m 24 ls (.int (b2i (inB (nI j) (g 3))) :: [.ref (b 0)])) rfl ?_
  refine lv_if_ne (tgt := 31) hx hb dX4_end_24 (by decide) (fun c_2 => ?_) (fun c_2 => absurd (b2i_f c_2) (by rw [inB_nI (by omega) (by omega)]; simp; omega))
  have c_2 : inB (nI j) (g 3) = true := b2i_t c_2
  refine lv_iconst (v := nI 0) hx hb dX4_end_31 (by decide) ?_
  refine lv_iload_n hx hb dX4_end_32 rfl (lv_at hl 0 rfl) ?_
  refine lv_if_lt (tgt := 54) hx hb dX4_end_33 (by decide) (fun c => absurd c (nI_pos (by omega))) (fun _ => ?_)
  refine lv_aload_n hx hb dX4_end_36 rfl (lv_at hl 1 rfl) ?_
  refine va_get (D := (dC, dI)) (ci := 5) (v := .ref (b 18)) (C := RX4) (T := TX4) (N := 29) hx hb hts hinX4 hown hK hP 0 rfl rfl 18 (by decide) (hts (.fieldLink RX4 44 "RenameRowsModel" "state" "[I") (by decide +kernel)) (fun _ h9 => h9) rfl dX4_end_37 ?_
  refine lv_iload_n hx hb dX4_end_40 rfl (lv_at hl 0 rfl) ?_
  refine lv_if_ge (tgt := 48) hx hb dX4_end_41 (by decide) (fun _ => ?_) (fun c => absurd (nI_pos' (by omega)) c)
  refine lv_iload_n hx hb dX4_end_48 rfl (lv_at hl 0 rfl) ?_
  refine ar_ld (D := (dC, dI)) (n := 64) (f := h 18) hx hb hK hP 12 0 rfl rfl (by omega) (by omega) dX4_end_49 ?_
  refine lv_iconst (v := nI 1) hx hb dX4_end_50 (by decide) ?_
  refine lv_icmp_eq (tgt := 58) hx hb dX4_end_51 (by decide) (fun c_5 => absurd c_5 hst) (fun c_5 => ?_)
  refine lv_iconst (v := nI 1) hx hb dX4_end_54 (by decide) ?_
  refine lv_goto (tgt := 59) hx hb dX4_end_55 (by decide) ?_
  refine lv_iconst (v := nI 0) hx hb dX4_end_59 (by decide) ?_
  refine wr_calli (va_runV (As := [.int (nI 0), .int (nI 1), .int (nI 0)]) (rest := []) ⟨hx, hb, hml, hown, hts⟩ (c_X4_throwing l dC dI cs b g h s.heap.size 0 1 0 hB (by decide) (by decide) (by decide)) (cwV 3 hts gX4_end_X4_throwing rfl rfl rfl (by decide +kernel) ⟨Nat.le_of_ble_eq_true rfl, Nat.le_of_ble_eq_true rfl⟩) (wr_preV (q := (RX4, TX4, 29)) hP hK hD 0 rfl rfl) rfl rfl hl.1 rfl (lv_room (Nat.le_of_ble_eq_true rfl)) dX4_end_60 ⟨Nat.zero_le _, Nat.zero_le _⟩) hS hD hA rfl (fun H locs hP hD hS => ?_)
  have hP : va_P (dC, dI) vwCl (wM cs b (un g 0 2) h) H := hP
  have hD : va_D A (wM cs b (un g 0 2) h) := hD
  refine W.eq (g2 := F0 m 63 ls (.int (nI 1) :: [])) rfl ?_
  have hB : m_bd (un g 0 2) := by (unfold m_bd un; simp; omega)
  refine lv_if_eq (tgt := 68) hx hb dX4_end_63 (by decide) (fun c => absurd c (by decide)) (fun _ => ?_)
  refine lv_iconst (v := nI 0) hx hb dX4_end_66 (by decide) ?_
  exact wr_iret hx hb hr hlocks hP hS dX4_end_67

def m_mr (h : Nat → Nat → Int32) (x : Int32) : Nat → Nat → Int32 := if x < 0 then h else uf h 7 (upd (h 7) (cl32 x) (nI 1))

set_option maxHeartbeats 4000000 in
set_option maxRecDepth 100000 in
theorem c_X4_end_0 (l : Launch) (dC : Nat → ClassId) (dI : Nat → Nat → Nat) (cs : ClassId × ClassId) (b g : Nat → Nat) (h : Nat → Nat → Int32) (sz : Nat) (j : Nat) (i : Nat) (hat : m_at g j = nI i) (hst : h 18 i = nI 1) (hok : m_okr g h) (hgv : h 14 i = -1) (hB : m_bd g) (h1 : j < g 3) (h2 : i < g 10)  : Met l yX4_end wsX4_end ({ frames := 3, cells := 0, slots := 0, locals := 64 }) (wrPc (dC, dI) vwCl (wM cs b g h) (tyl cs) sz [.ref (b 0), .int (nI j)]) (wrQ (dC, dI) vwCl (wM cs b (un g 0 0) (m_mr (uf h 18 (upd (h 18) i (nI 2))) (h 14 i))) (some (.int (nI (m_cnt (m_mr (uf h 18 (upd (h 18) i (nI 2))) (h 14 i)) (g 10)) - nI (m_cnt h (g 10))))) (va_A (wM cs b g h) sz)) 0 0 (va_A (wM cs b g h) sz) := by
  refine wr_of (cc := cX4_end) (maxL := 4) (ret := (some .int)) (own := RX4) (by decide) rfl rfl (Nat.le_of_ble_eq_true rfl) ?_
  intro p e s m below meth c A hsz hAe hx hb hr hml hts hown hlocks hP hK hD hA hS ls hl
  have hl : lv_has ls 4 [(0, .ref (b 0)), (1, .int (nI j))] := hl
  have hinX4 : ∀ w ∈ wsX40, w ∈ wsX4_end := by decide +kernel
  obtain ⟨M1, M2, M3, M4, M5, M6, M7, M8, M9, M10, M11, M12, M13, M14, M15, M16⟩ := id hB
  refine lv_aload_n hx hb dX4_end_0 rfl (lv_at hl 0 rfl) ?_
  refine lv_iload_n hx hb dX4_end_1 rfl (lv_at hl 1 rfl) ?_
  refine W.callR (W.runV (As := [.int (nI j)]) (rest := []) ⟨hx, hb, hml, hown, hts⟩ (c_X4_isPlace l dC dI cs b g h (nI j) hB) (cwV 1 hts gX4_end_X4_isPlace rfl rfl rfl (by decide +kernel) ⟨Nat.le_of_ble_eq_true rfl, Nat.le_of_ble_eq_true rfl⟩) (rd_preV (q := (RX4, TX4, 29)) hP hK 0 rfl rfl) rfl rfl hl.1 rfl (lv_room (Nat.le_of_ble_eq_true rfl)) dX4_end_2 ⟨Nat.zero_le _, Nat.zero_le _⟩) ?_
  refine W.eq (g2 := F0 m 5 ls (.int (b2i (inB (nI j) (g 3))) :: [])) rfl ?_
  refine lv_if_eq (tgt := 16) hx hb dX4_end_5 (by decide) (fun c_1 => absurd (b2i_f c_1) (by rw [inB_nI (by omega) (by omega)]; simp; omega)) (fun c_1 => ?_)
  have c_1 : inB (nI j) (g 3) = true := b2i_t c_1
  refine lv_aload_n hx hb dX4_end_8 rfl (lv_at hl 0 rfl) ?_
  refine lv_iload_n hx hb dX4_end_9 rfl (lv_at hl 1 rfl) ?_
  refine W.callR (W.runV (As := [.int (nI j)]) (rest := []) ⟨hx, hb, hml, hown, hts⟩ (c_X4_at l dC dI cs b g h j hB (by first | omega | assumption)) (cwV 1 hts gX4_end_X4_at rfl rfl rfl (by decide +kernel) ⟨Nat.le_of_ble_eq_true rfl, Nat.le_of_ble_eq_true rfl⟩) (rd_preV (q := (RX4, TX4, 29)) hP hK 0 rfl rfl) rfl rfl hl.1 rfl (lv_room (Nat.le_of_ble_eq_true rfl)) dX4_end_10 ⟨Nat.zero_le _, Nat.zero_le _⟩) ?_
  refine W.eq (g2 := F0 m 13 ls (.int (m_at g j) :: [])) rfl ?_
  refine tp_eq hat ?_
  refine lv_goto (tgt := 17) hx hb dX4_end_13 (by decide) ?_
  refine lv_istore_n (lv' := [(2, .int (nI i)), (0, .ref (b 0)), (1, .int (nI j))]) hx hb dX4_end_17 rfl hl (by decide) rfl (fun ls hl => ?_)
  refine lv_aload_n hx hb dX4_end_18 rfl (lv_at hl 1 rfl) ?_
  refine lv_aload_n hx hb dX4_end_19 rfl (lv_at hl 1 rfl) ?_
  refine lv_iload_n hx hb dX4_end_20 rfl (lv_at hl 2 rfl) ?_
  refine W.callR (W.runV (As := [.int (nI j)]) (rest := [.ref (b 0)]) ⟨hx, hb, hml, hown, hts⟩ (c_X4_isPlace l dC dI cs b g h (nI j) hB) (cwV 1 hts gX4_end_X4_isPlace rfl rfl rfl (by decide +kernel) ⟨Nat.le_of_ble_eq_true rfl, Nat.le_of_ble_eq_true rfl⟩) (rd_preV (q := (RX4, TX4, 29)) hP hK 0 rfl rfl) rfl rfl hl.1 rfl (lv_room (Nat.le_of_ble_eq_true rfl)) dX4_end_21 ⟨Nat.zero_le _, Nat.zero_le _⟩) ?_
  refine W.eq (g2 := F0 m 24 ls (.int (b2i (inB (nI j) (g 3))) :: [.ref (b 0)])) rfl ?_
  refine lv_if_ne (tgt := 31) hx hb dX4_end_24 (by decide) (fun c_2 => ?_) (fun c_2 => absurd (b2i_f c_2) (by rw [inB_nI (by omega) (by omega)]; simp; omega))
  have c_2 : inB (nI j) (g 3) = true := b2i_t c_2
  refine lv_iconst (v := nI 0) hx hb dX4_end_31 (by decide) ?_
  refine lv_iload_n hx hb dX4_end_32 rfl (lv_at hl 0 rfl) ?_
  refine lv_if_lt (tgt := 54) hx hb dX4_end_33 (by decide) (fun c => absurd c (nI_pos (by omega))) (fun _ => ?_)
  refine lv_aload_n hx hb dX4_end_36 rfl (lv_at hl 1 rfl) ?_
  refine va_get (D := (dC, dI)) (ci := 5) (v := .ref (b 18)) (C := RX4) (T := TX4) (N := 29) hx hb hts hinX4 hown hK hP 0 rfl rfl 18 (by decide) (hts (.fieldLink RX4 44 "RenameRowsModel" "state" "[I") (by decide +kernel)) (fun _ h9 => h9) rfl dX4_end_37 ?_
  refine lv_iload_n hx hb dX4_end_40 rfl (lv_at hl 0 rfl) ?_
  refine lv_if_ge (tgt := 48) hx hb dX4_end_41 (by decide) (fun _ => ?_) (fun c => absurd (nI_pos' (by omega)) c)
  refine lv_iload_n hx hb dX4_end_48 rfl (lv_at hl 0 rfl) ?_
  refine ar_ld (D := (dC, dI)) (n := 64) (f := h 18) hx hb hK hP 12 0 rfl rfl (by omega) (by omega) dX4_end_49 ?_
  refine lv_iconst (v := nI 1) hx hb dX4_end_50 (by decide) ?_
  refine lv_icmp_eq (tgt := 58) hx hb dX4_end_51 (by decide) (fun c_5 => ?_) (fun c_5 => absurd hst c_5)
  refine lv_iconst (v := nI 0) hx hb dX4_end_58 (by decide) ?_
  refine lv_iconst (v := nI 0) hx hb dX4_end_59 (by decide) ?_
  refine wr_calli (va_runV (As := [.int (nI 0), .int (nI 0), .int (nI 0)]) (rest := []) ⟨hx, hb, hml, hown, hts⟩ (c_X4_throwing l dC dI cs b g h s.heap.size 0 0 0 hB (by decide) (by decide) (by decide)) (cwV 3 hts gX4_end_X4_throwing rfl rfl rfl (by decide +kernel) ⟨Nat.le_of_ble_eq_true rfl, Nat.le_of_ble_eq_true rfl⟩) (wr_preV (q := (RX4, TX4, 29)) hP hK hD 0 rfl rfl) rfl rfl hl.1 rfl (lv_room (Nat.le_of_ble_eq_true rfl)) dX4_end_60 ⟨Nat.zero_le _, Nat.zero_le _⟩) hS hD hA rfl (fun H locs hP hD hS => ?_)
  have hP : va_P (dC, dI) vwCl (wM cs b (un g 0 0) h) H := hP
  have hD : va_D A (wM cs b (un g 0 0) h) := hD
  refine W.eq (g2 := F0 m 63 ls (.int (nI 0) :: [])) rfl ?_
  have hB : m_bd (un g 0 0) := by (unfold m_bd un; simp; omega)
  refine lv_if_eq (tgt := 68) hx hb dX4_end_63 (by decide) (fun _ => ?_) (fun c => absurd (by decide) c)
  have hok : m_okr (un g 0 0) h := hok
  refine lv_aload_n hx hb dX4_end_68 rfl (lv_at hl 1 rfl) ?_
  refine W.callR (W.runV (As := []) (rest := []) ⟨hx, hb, hml, hown, hts⟩ (c_X4_mayGoAll l dC dI cs b (un g 0 0) h (by first | assumption | exact hok) hB) (cwV 0 hts gX4_end_X4_mayGoAll rfl rfl rfl (by decide +kernel) ⟨Nat.le_of_ble_eq_true rfl, Nat.le_of_ble_eq_true rfl⟩) (rd_preV (q := (RX4, TX4, 29)) hP hK 0 rfl rfl) rfl rfl hl.1 rfl (lv_room (Nat.le_of_ble_eq_true rfl)) dX4_end_69 ⟨Nat.zero_le _, Nat.zero_le _⟩) ?_
  refine W.eq (g2 := F0 m 72 ls (.int (nI (m_cnt h (g 10))) :: [])) rfl ?_
  refine lv_istore_n (lv' := [(3, .int (nI (m_cnt h (g 10)))), (2, .int (nI i)), (0, .ref (b 0)), (1, .int (nI j))]) hx hb dX4_end_72 rfl hl (by decide) rfl (fun ls hl => ?_)
  refine lv_aload_n hx hb dX4_end_73 rfl (lv_at hl 2 rfl) ?_
  refine va_get (D := (dC, dI)) (ci := 5) (v := .ref (b 18)) (C := RX4) (T := TX4) (N := 29) hx hb hts hinX4 hown hK hP 0 rfl rfl 18 (by decide) (hts (.fieldLink RX4 44 "RenameRowsModel" "state" "[I") (by decide +kernel)) (fun _ h9 => h9) rfl dX4_end_74 ?_
  refine lv_iload_n hx hb dX4_end_77 rfl (lv_at hl 1 rfl) ?_
  refine lv_iconst (v := nI 2) hx hb dX4_end_78 (by decide) ?_
  refine ar_st (D := (dC, dI)) (n := 64) (f := h 18) hx hb hK hP hD hS 12 0 rfl rfl (by omega) (by omega) dX4_end_79 (fun H locs hP hD hS => ?_)
  have hP : va_P (dC, dI) vwCl (wM cs b (un g 0 0) (uf h 18 (upd (h 18) i (nI 2)))) H := hP
  have hD : va_D A (wM cs b (un g 0 0) (uf h 18 (upd (h 18) i (nI 2)))) := hD
  refine lv_aload_n hx hb dX4_end_80 rfl (lv_at hl 2 rfl) ?_
  refine va_get (D := (dC, dI)) (ci := 5) (v := .ref (b 14)) (C := RX4) (T := TX4) (N := 29) hx hb hts hinX4 hown hK hP 0 rfl rfl 14 (by decide) (hts (.fieldLink RX4 32 "RenameRowsModel" "gave" "[I") (by decide +kernel)) (fun _ h9 => h9) rfl dX4_end_81 ?_
  refine lv_iload_n hx hb dX4_end_84 rfl (lv_at hl 1 rfl) ?_
  refine ar_ld (D := (dC, dI)) (n := 64) (f := h 14) hx hb hK hP 8 0 rfl rfl (by omega) (by omega) dX4_end_85 ?_
  refine tp_eq hgv ?_
  refine lv_if_lt (tgt := 101) hx hb dX4_end_86 (by decide) (fun _ => ?_) (fun c => absurd (by decide) c)
  refine lv_aload_n hx hb dX4_end_101 rfl (lv_at hl 2 rfl) ?_
  refine W.callR (W.runV (As := []) (rest := []) ⟨hx, hb, hml, hown, hts⟩ (c_X4_mayGoAll l dC dI cs b (un g 0 0) (uf h 18 (upd (h 18) i (nI 2))) (by first | assumption | exact hok) hB) (cwV 0 hts gX4_end_X4_mayGoAll rfl rfl rfl (by decide +kernel) ⟨Nat.le_of_ble_eq_true rfl, Nat.le_of_ble_eq_true rfl⟩) (rd_preV (q := (RX4, TX4, 29)) hP hK 0 rfl rfl) rfl rfl hl.1 rfl (lv_room (Nat.le_of_ble_eq_true rfl)) dX4_end_102 ⟨Nat.zero_le _, Nat.zero_le _⟩) ?_
  refine W.eq (g2 := F0 m 105 ls (.int (nI (m_cnt (uf h 18 (upd (h 18) i (nI 2))) (g 10))) :: [])) rfl ?_
  refine lv_iload_n hx hb dX4_end_105 rfl (lv_at hl 0 rfl) ?_
  refine lv_isub hx hb dX4_end_106 ?_
  have hP : va_P (dC, dI) vwCl (wM cs b (un g 0 0) (m_mr (uf h 18 (upd (h 18) i (nI 2))) (h 14 i))) H := by
    have e9 : (wM cs b (un g 0 0) (uf h 18 (upd (h 18) i (nI 2)))) = (wM cs b (un g 0 0) (m_mr (uf h 18 (upd (h 18) i (nI 2))) (h 14 i))) := by first | rfl | (rw [hgv]; rfl) | simp [m_mr, hgv]
    rw [← e9]; exact hP
  refine tp_eq (show _ = (nI (m_cnt (m_mr (uf h 18 (upd (h 18) i (nI 2))) (h 14 i)) (g 10)) - nI (m_cnt h (g 10))) by first | rfl | (rw [hgv]; rfl) | simp [m_mr, hgv]) ?_
  exact wr_iret hx hb hr hlocks hP hS dX4_end_107

set_option maxHeartbeats 4000000 in
set_option maxRecDepth 100000 in
theorem c_X4_end_g (l : Launch) (dC : Nat → ClassId) (dI : Nat → Nat → Nat) (cs : ClassId × ClassId) (b g : Nat → Nat) (h : Nat → Nat → Int32) (sz : Nat) (j : Nat) (i q : Nat) (hat : m_at g j = nI i) (hst : h 18 i = nI 1) (hok : m_okr g h) (hgv : h 14 i = nI q) (hB : m_bd g) (h1 : j < g 3) (h2 : i < g 10) (h3 : q < 96)  : Met l yX4_end wsX4_end ({ frames := 3, cells := 0, slots := 0, locals := 64 }) (wrPc (dC, dI) vwCl (wM cs b g h) (tyl cs) sz [.ref (b 0), .int (nI j)]) (wrQ (dC, dI) vwCl (wM cs b (un g 0 0) (m_mr (uf h 18 (upd (h 18) i (nI 2))) (h 14 i))) (some (.int (nI (m_cnt (m_mr (uf h 18 (upd (h 18) i (nI 2))) (h 14 i)) (g 10)) - nI (m_cnt h (g 10))))) (va_A (wM cs b g h) sz)) 0 0 (va_A (wM cs b g h) sz) := by
  refine wr_of (cc := cX4_end) (maxL := 4) (ret := (some .int)) (own := RX4) (by decide) rfl rfl (Nat.le_of_ble_eq_true rfl) ?_
  intro p e s m below meth c A hsz hAe hx hb hr hml hts hown hlocks hP hK hD hA hS ls hl
  have hl : lv_has ls 4 [(0, .ref (b 0)), (1, .int (nI j))] := hl
  have hinX4 : ∀ w ∈ wsX40, w ∈ wsX4_end := by decide +kernel
  obtain ⟨M1, M2, M3, M4, M5, M6, M7, M8, M9, M10, M11, M12, M13, M14, M15, M16⟩ := id hB
  refine lv_aload_n hx hb dX4_end_0 rfl (lv_at hl 0 rfl) ?_
  refine lv_iload_n hx hb dX4_end_1 rfl (lv_at hl 1 rfl) ?_
  refine W.callR (W.runV (As := [.int (nI j)]) (rest := []) ⟨hx, hb, hml, hown, hts⟩ (c_X4_isPlace l dC dI cs b g h (nI j) hB) (cwV 1 hts gX4_end_X4_isPlace rfl rfl rfl (by decide +kernel) ⟨Nat.le_of_ble_eq_true rfl, Nat.le_of_ble_eq_true rfl⟩) (rd_preV (q := (RX4, TX4, 29)) hP hK 0 rfl rfl) rfl rfl hl.1 rfl (lv_room (Nat.le_of_ble_eq_true rfl)) dX4_end_2 ⟨Nat.zero_le _, Nat.zero_le _⟩) ?_
  refine W.eq (g2 := F0 m 5 ls (.int (b2i (inB (nI j) (g 3))) :: [])) rfl ?_
  refine lv_if_eq (tgt := 16) hx hb dX4_end_5 (by decide) (fun c_1 => absurd (b2i_f c_1) (by rw [inB_nI (by omega) (by omega)]; simp; omega)) (fun c_1 => ?_)
  have c_1 : inB (nI j) (g 3) = true := b2i_t c_1
  refine lv_aload_n hx hb dX4_end_8 rfl (lv_at hl 0 rfl) ?_
  refine lv_iload_n hx hb dX4_end_9 rfl (lv_at hl 1 rfl) ?_
  refine W.callR (W.runV (As := [.int (nI j)]) (rest := []) ⟨hx, hb, hml, hown, hts⟩ (c_X4_at l dC dI cs b g h j hB (by first | omega | assumption)) (cwV 1 hts gX4_end_X4_at rfl rfl rfl (by decide +kernel) ⟨Nat.le_of_ble_eq_true rfl, Nat.le_of_ble_eq_true rfl⟩) (rd_preV (q := (RX4, TX4, 29)) hP hK 0 rfl rfl) rfl rfl hl.1 rfl (lv_room (Nat.le_of_ble_eq_true rfl)) dX4_end_10 ⟨Nat.zero_le _, Nat.zero_le _⟩) ?_
  refine W.eq (g2 := F0 m 13 ls (.int (m_at g j) :: [])) rfl ?_
  refine tp_eq hat ?_
  refine lv_goto (tgt := 17) hx hb dX4_end_13 (by decide) ?_
  refine lv_istore_n (lv' := [(2, .int (nI i)), (0, .ref (b 0)), (1, .int (nI j))]) hx hb dX4_end_17 rfl hl (by decide) rfl (fun ls hl => ?_)
  refine lv_aload_n hx hb dX4_end_18 rfl (lv_at hl 1 rfl) ?_
  refine lv_aload_n hx hb dX4_end_19 rfl (lv_at hl 1 rfl) ?_
  refine lv_iload_n hx hb dX4_end_20 rfl (lv_at hl 2 rfl) ?_
  refine W.callR (W.runV (As := [.int (nI j)]) (rest := [.ref (b 0)]) ⟨hx, hb, hml, hown, hts⟩ (c_X4_isPlace l dC dI cs b g h (nI j) hB) (cwV 1 hts gX4_end_X4_isPlace rfl rfl rfl (by decide +kernel) ⟨Nat.le_of_ble_eq_true rfl, Nat.le_of_ble_eq_true rfl⟩) (rd_preV (q := (RX4, TX4, 29)) hP hK 0 rfl rfl) rfl rfl hl.1 rfl (lv_room (Nat.le_of_ble_eq_true rfl)) dX4_end_21 ⟨Nat.zero_le _, Nat.zero_le _⟩) ?_
  refine W.eq (g2 := F0 m 24 ls (.int (b2i (inB (nI j) (g 3))) :: [.ref (b 0)])) rfl ?_
  refine lv_if_ne (tgt := 31) hx hb dX4_end_24 (by decide) (fun c_2 => ?_) (fun c_2 => absurd (b2i_f c_2) (by rw [inB_nI (by omega) (by omega)]; simp; omega))
  have c_2 : inB (nI j) (g 3) = true := b2i_t c_2
  refine lv_iconst (v := nI 0) hx hb dX4_end_31 (by decide) ?_
  refine lv_iload_n hx hb dX4_end_32 rfl (lv_at hl 0 rfl) ?_
  refine lv_if_lt (tgt := 54) hx hb dX4_end_33 (by decide) (fun c => absurd c (nI_pos (by omega))) (fun _ => ?_)
  refine lv_aload_n hx hb dX4_end_36 rfl (lv_at hl 1 rfl) ?_
  refine va_get (D := (dC, dI)) (ci := 5) (v := .ref (b 18)) (C := RX4) (T := TX4) (N := 29) hx hb hts hinX4 hown hK hP 0 rfl rfl 18 (by decide) (hts (.fieldLink RX4 44 "RenameRowsModel" "state" "[I") (by decide +kernel)) (fun _ h9 => h9) rfl dX4_end_37 ?_
  refine lv_iload_n hx hb dX4_end_40 rfl (lv_at hl 0 rfl) ?_
  refine lv_if_ge (tgt := 48) hx hb dX4_end_41 (by decide) (fun _ => ?_) (fun c => absurd (nI_pos' (by omega)) c)
  refine lv_iload_n hx hb dX4_end_48 rfl (lv_at hl 0 rfl) ?_
  refine ar_ld (D := (dC, dI)) (n := 64) (f := h 18) hx hb hK hP 12 0 rfl rfl (by omega) (by omega) dX4_end_49 ?_
  refine lv_iconst (v := nI 1) hx hb dX4_end_50 (by decide) ?_
  refine lv_icmp_eq (tgt := 58) hx hb dX4_end_51 (by decide) (fun c_5 => ?_) (fun c_5 => absurd hst c_5)
  refine lv_iconst (v := nI 0) hx hb dX4_end_58 (by decide) ?_
  refine lv_iconst (v := nI 0) hx hb dX4_end_59 (by decide) ?_
  refine wr_calli (va_runV (As := [.int (nI 0), .int (nI 0), .int (nI 0)]) (rest := []) ⟨hx, hb, hml, hown, hts⟩ (c_X4_throwing l dC dI cs b g h s.heap.size 0 0 0 hB (by decide) (by decide) (by decide)) (cwV 3 hts gX4_end_X4_throwing rfl rfl rfl (by decide +kernel) ⟨Nat.le_of_ble_eq_true rfl, Nat.le_of_ble_eq_true rfl⟩) (wr_preV (q := (RX4, TX4, 29)) hP hK hD 0 rfl rfl) rfl rfl hl.1 rfl (lv_room (Nat.le_of_ble_eq_true rfl)) dX4_end_60 ⟨Nat.zero_le _, Nat.zero_le _⟩) hS hD hA rfl (fun H locs hP hD hS => ?_)
  have hP : va_P (dC, dI) vwCl (wM cs b (un g 0 0) h) H := hP
  have hD : va_D A (wM cs b (un g 0 0) h) := hD
  refine W.eq (g2 := F0 m 63 ls (.int (nI 0) :: [])) rfl ?_
  have hB : m_bd (un g 0 0) := by (unfold m_bd un; simp; omega)
  refine lv_if_eq (tgt := 68) hx hb dX4_end_63 (by decide) (fun _ => ?_) (fun c => absurd (by decide) c)
  have hok : m_okr (un g 0 0) h := hok
  refine lv_aload_n hx hb dX4_end_68 rfl (lv_at hl 1 rfl) ?_
  refine W.callR (W.runV (As := []) (rest := []) ⟨hx, hb, hml, hown, hts⟩ (c_X4_mayGoAll l dC dI cs b (un g 0 0) h (by first | assumption | exact hok) hB) (cwV 0 hts gX4_end_X4_mayGoAll rfl rfl rfl (by decide +kernel) ⟨Nat.le_of_ble_eq_true rfl, Nat.le_of_ble_eq_true rfl⟩) (rd_preV (q := (RX4, TX4, 29)) hP hK 0 rfl rfl) rfl rfl hl.1 rfl (lv_room (Nat.le_of_ble_eq_true rfl)) dX4_end_69 ⟨Nat.zero_le _, Nat.zero_le _⟩) ?_
  refine W.eq (g2 := F0 m 72 ls (.int (nI (m_cnt h (g 10))) :: [])) rfl ?_
  refine lv_istore_n (lv' := [(3, .int (nI (m_cnt h (g 10)))), (2, .int (nI i)), (0, .ref (b 0)), (1, .int (nI j))]) hx hb dX4_end_72 rfl hl (by decide) rfl (fun ls hl => ?_)
  refine lv_aload_n hx hb dX4_end_73 rfl (lv_at hl 2 rfl) ?_
  refine va_get (D := (dC, dI)) (ci := 5) (v := .ref (b 18)) (C := RX4) (T := TX4) (N := 29) hx hb hts hinX4 hown hK hP 0 rfl rfl 18 (by decide) (hts (.fieldLink RX4 44 "RenameRowsModel" "state" "[I") (by decide +kernel)) (fun _ h9 => h9) rfl dX4_end_74 ?_
  refine lv_iload_n hx hb dX4_end_77 rfl (lv_at hl 1 rfl) ?_
  refine lv_iconst (v := nI 2) hx hb dX4_end_78 (by decide) ?_
  refine ar_st (D := (dC, dI)) (n := 64) (f := h 18) hx hb hK hP hD hS 12 0 rfl rfl (by omega) (by omega) dX4_end_79 (fun H locs hP hD hS => ?_)
  have hP : va_P (dC, dI) vwCl (wM cs b (un g 0 0) (uf h 18 (upd (h 18) i (nI 2)))) H := hP
  have hD : va_D A (wM cs b (un g 0 0) (uf h 18 (upd (h 18) i (nI 2)))) := hD
  refine lv_aload_n hx hb dX4_end_80 rfl (lv_at hl 2 rfl) ?_
  refine va_get (D := (dC, dI)) (ci := 5) (v := .ref (b 14)) (C := RX4) (T := TX4) (N := 29) hx hb hts hinX4 hown hK hP 0 rfl rfl 14 (by decide) (hts (.fieldLink RX4 32 "RenameRowsModel" "gave" "[I") (by decide +kernel)) (fun _ h9 => h9) rfl dX4_end_81 ?_
  refine lv_iload_n hx hb dX4_end_84 rfl (lv_at hl 1 rfl) ?_
  refine ar_ld (D := (dC, dI)) (n := 64) (f := h 14) hx hb hK hP 8 0 rfl rfl (by omega) (by omega) dX4_end_85 ?_
  refine tp_eq hgv ?_
  refine lv_if_lt (tgt := 101) hx hb dX4_end_86 (by decide) (fun c => absurd c (nI_pos (by omega))) (fun _ => ?_)
  refine lv_aload_n hx hb dX4_end_89 rfl (lv_at hl 2 rfl) ?_
  refine va_get (D := (dC, dI)) (ci := 5) (v := .ref (b 7)) (C := RX4) (T := TX4) (N := 29) hx hb hts hinX4 hown hK hP 0 rfl rfl 7 (by decide) (hts (.fieldLink RX4 19 "RenameRowsModel" "ready" "[Z") (by decide +kernel)) (fun _ h9 => h9) rfl dX4_end_90 ?_
  refine lv_aload_n hx hb dX4_end_93 rfl (lv_at hl 2 rfl) ?_
  refine va_get (D := (dC, dI)) (ci := 5) (v := .ref (b 14)) (C := RX4) (T := TX4) (N := 29) hx hb hts hinX4 hown hK hP 0 rfl rfl 14 (by decide) (hts (.fieldLink RX4 32 "RenameRowsModel" "gave" "[I") (by decide +kernel)) (fun _ h9 => h9) rfl dX4_end_94 ?_
  refine lv_iload_n hx hb dX4_end_97 rfl (lv_at hl 1 rfl) ?_
  refine ar_ld (D := (dC, dI)) (n := 64) (f := h 14) hx hb hK hP 8 0 rfl rfl (by omega) (by omega) dX4_end_98 ?_
  refine tp_eq hgv ?_
  refine lv_iconst (v := nI 1) hx hb dX4_end_99 (by decide) ?_
  refine ar_zst (D := (dC, dI)) (n := 96) (f := h 7) hx hb hK hP hD hS 4 1 rfl rfl (y := nI 1) (by decide) (by omega) (by omega) dX4_end_100 (fun H locs hP hD hS => ?_)
  have hP : va_P (dC, dI) vwCl (wM cs b (un g 0 0) (uf (uf h 18 (upd (h 18) i (nI 2))) 7 (upd (h 7) q (nI 1)))) H := hP
  have hD : va_D A (wM cs b (un g 0 0) (uf (uf h 18 (upd (h 18) i (nI 2))) 7 (upd (h 7) q (nI 1)))) := hD
  refine lv_aload_n hx hb dX4_end_101 rfl (lv_at hl 2 rfl) ?_
  refine W.callR (W.runV (As := []) (rest := []) ⟨hx, hb, hml, hown, hts⟩ (c_X4_mayGoAll l dC dI cs b (un g 0 0) (uf (uf h 18 (upd (h 18) i (nI 2))) 7 (upd (h 7) q (nI 1))) (by first | assumption | exact hok) hB) (cwV 0 hts gX4_end_X4_mayGoAll rfl rfl rfl (by decide +kernel) ⟨Nat.le_of_ble_eq_true rfl, Nat.le_of_ble_eq_true rfl⟩) (rd_preV (q := (RX4, TX4, 29)) hP hK 0 rfl rfl) rfl rfl hl.1 rfl (lv_room (Nat.le_of_ble_eq_true rfl)) dX4_end_102 ⟨Nat.zero_le _, Nat.zero_le _⟩) ?_
  refine W.eq (g2 := F0 m 105 ls (.int (nI (m_cnt (uf (uf h 18 (upd (h 18) i (nI 2))) 7 (upd (h 7) q (nI 1))) (g 10))) :: [])) rfl ?_
  refine lv_iload_n hx hb dX4_end_105 rfl (lv_at hl 0 rfl) ?_
  refine lv_isub hx hb dX4_end_106 ?_
  have hP : va_P (dC, dI) vwCl (wM cs b (un g 0 0) (m_mr (uf h 18 (upd (h 18) i (nI 2))) (h 14 i))) H := by
    have e9 : (wM cs b (un g 0 0) (uf (uf h 18 (upd (h 18) i (nI 2))) 7 (upd (h 7) q (nI 1)))) = (wM cs b (un g 0 0) (m_mr (uf h 18 (upd (h 18) i (nI 2))) (h 14 i))) := by simp [m_mr, hgv, nI_pos (show q < 2 ^ 31 by omega), cl32_nI (show q < 2 ^ 31 by omega)]; rfl
    rw [← e9]; exact hP
  refine tp_eq (show _ = (nI (m_cnt (m_mr (uf h 18 (upd (h 18) i (nI 2))) (h 14 i)) (g 10)) - nI (m_cnt h (g 10))) by simp [m_mr, hgv, nI_pos (show q < 2 ^ 31 by omega), cl32_nI (show q < 2 ^ 31 by omega)]; rfl) ?_
  exact wr_iret hx hb hr hlocks hP hS dX4_end_107

set_option maxHeartbeats 4000000 in
set_option maxRecDepth 100000 in
theorem c_X4_row_x1 (l : Launch) (dC : Nat → ClassId) (dI : Nat → Nat → Nat) (cs : ClassId × ClassId) (b g : Nat → Nat) (h : Nat → Nat → Int32) (sz : Nat) (y : Int32) (z : Int32) (hbad : inB y (g 3) = false) (hB : m_bd g)  : Met l yX4_row wsX4_row ({ frames := 1, cells := 0, slots := 0, locals := 23 }) (wrPc (dC, dI) vwCl (wM cs b g h) (tyl cs) sz [.ref (b 0), .int y, .int z]) (wrQ (dC, dI) vwCl (wM cs b (un g 0 1) h) (some (.int (nI 0))) (va_A (wM cs b g h) sz)) 0 0 (va_A (wM cs b g h) sz) := by
  refine wr_of (cc := cX4_row) (maxL := 4) (ret := (some .int)) (own := RX4) (by decide) rfl rfl (Nat.le_of_ble_eq_true rfl) ?_
  intro p e s m below meth c A hsz hAe hx hb hr hml hts hown hlocks hP hK hD hA hS ls hl
  have hl : lv_has ls 4 [(0, .ref (b 0)), (1, .int y), (2, .int z)] := hl
  obtain ⟨M1, M2, M3, M4, M5, M6, M7, M8, M9, M10, M11, M12, M13, M14, M15, M16⟩ := id hB
  refine lv_aload_n hx hb dX4_row_0 rfl (lv_at hl 0 rfl) ?_
  refine lv_iload_n hx hb dX4_row_1 rfl (lv_at hl 1 rfl) ?_
  refine W.callR (W.runV (As := [.int y]) (rest := []) ⟨hx, hb, hml, hown, hts⟩ (c_X4_isPlace l dC dI cs b g h y hB) (cwV 1 hts gX4_row_X4_isPlace rfl rfl rfl (by decide +kernel) ⟨Nat.le_of_ble_eq_true rfl, Nat.le_of_ble_eq_true rfl⟩) (rd_preV (q := (RX4, TX4, 29)) hP hK 0 rfl rfl) rfl rfl hl.1 rfl (lv_room (Nat.le_of_ble_eq_true rfl)) dX4_row_2 ⟨Nat.zero_le _, Nat.zero_le _⟩) ?_
  refine W.eq (g2 := F0 m 5 ls (.int (b2i (inB y (g 3))) :: [])) rfl ?_
  refine lv_if_eq (tgt := 16) hx hb dX4_row_5 (by decide) (fun c_1 => ?_) (fun c_1 => absurd (b2i_t c_1) (by rw [hbad]; decide))
  have c_1 : inB y (g 3) = false := b2i_f c_1
  refine lv_iconst (v := (-1)) hx hb dX4_row_16 (by decide) ?_
  refine lv_istore_n (lv' := [(3, .int (-1)), (0, .ref (b 0)), (1, .int y), (2, .int z)]) hx hb dX4_row_17 rfl hl (by decide) rfl (fun ls hl => ?_)
  refine lv_aload_n hx hb dX4_row_18 rfl (lv_at hl 1 rfl) ?_
  refine lv_aload_n hx hb dX4_row_19 rfl (lv_at hl 1 rfl) ?_
  refine lv_iload_n hx hb dX4_row_20 rfl (lv_at hl 2 rfl) ?_
  refine W.callR (W.runV (As := [.int y]) (rest := [.ref (b 0)]) ⟨hx, hb, hml, hown, hts⟩ (c_X4_isPlace l dC dI cs b g h y hB) (cwV 1 hts gX4_row_X4_isPlace rfl rfl rfl (by decide +kernel) ⟨Nat.le_of_ble_eq_true rfl, Nat.le_of_ble_eq_true rfl⟩) (rd_preV (q := (RX4, TX4, 29)) hP hK 0 rfl rfl) rfl rfl hl.1 rfl (lv_room (Nat.le_of_ble_eq_true rfl)) dX4_row_21 ⟨Nat.zero_le _, Nat.zero_le _⟩) ?_
  refine W.eq (g2 := F0 m 24 ls (.int (b2i (inB y (g 3))) :: [.ref (b 0)])) rfl ?_
  refine lv_if_ne (tgt := 31) hx hb dX4_row_24 (by decide) (fun c_2 => absurd (b2i_t c_2) (by rw [hbad]; decide)) (fun c_2 => ?_)
  have c_2 : inB y (g 3) = false := b2i_f c_2
  refine lv_iconst (v := nI 1) hx hb dX4_row_27 (by decide) ?_
  refine lv_goto (tgt := 32) hx hb dX4_row_28 (by decide) ?_
  refine lv_iload_n hx hb dX4_row_32 rfl (lv_at hl 0 rfl) ?_
  refine lv_if_ge (tgt := 40) hx hb dX4_row_33 (by decide) (fun c => absurd c (by decide)) (fun _ => ?_)
  refine lv_iconst (v := nI 1) hx hb dX4_row_36 (by decide) ?_
  refine lv_goto (tgt := 41) hx hb dX4_row_37 (by decide) ?_
  refine lv_iload_n hx hb dX4_row_41 rfl (lv_at hl 3 rfl) ?_
  refine lv_if_lt (tgt := 51) hx hb dX4_row_42 (by decide) (fun c_4 => ?_) (fun c_4 => ?_)
  · refine lv_iconst (v := nI 1) hx hb dX4_row_51 (by decide) ?_
    refine lv_goto (tgt := 56) hx hb dX4_row_52 (by decide) ?_
    refine wr_calli (va_runV (As := [.int (nI 1), .int (nI 1), .int (nI 1)]) (rest := []) ⟨hx, hb, hml, hown, hts⟩ (c_X4_throwing l dC dI cs b g h s.heap.size 1 1 1 hB (by decide) (by decide) (by decide)) (cwV 3 hts gX4_row_X4_throwing rfl rfl rfl (by decide +kernel) ⟨Nat.le_of_ble_eq_true rfl, Nat.le_of_ble_eq_true rfl⟩) (wr_preV (q := (RX4, TX4, 29)) hP hK hD 0 rfl rfl) rfl rfl hl.1 rfl (lv_room (Nat.le_of_ble_eq_true rfl)) dX4_row_56 ⟨Nat.zero_le _, Nat.zero_le _⟩) hS hD hA rfl (fun H locs hP hD hS => ?_)
    have hP : va_P (dC, dI) vwCl (wM cs b (un g 0 1) h) H := hP
    have hD : va_D A (wM cs b (un g 0 1) h) := hD
    refine W.eq (g2 := F0 m 59 ls (.int (nI 1) :: [])) rfl ?_
    have hB : m_bd (un g 0 1) := by (unfold m_bd un; simp; omega)
    refine lv_if_eq (tgt := 64) hx hb dX4_row_59 (by decide) (fun c => absurd c (by decide)) (fun _ => ?_)
    refine lv_iconst (v := nI 0) hx hb dX4_row_62 (by decide) ?_
    exact wr_iret hx hb hr hlocks hP hS dX4_row_63
  · refine lv_iload_n hx hb dX4_row_45 rfl (lv_at hl 3 rfl) ?_
    refine lv_bipush (v := nI 6) hx hb dX4_row_46 (by decide) ?_
    refine lv_icmp_le (tgt := 55) hx hb dX4_row_48 (by decide) (fun c_6 => ?_) (fun c_6 => ?_)
    · refine lv_iconst (v := nI 0) hx hb dX4_row_55 (by decide) ?_
      refine wr_calli (va_runV (As := [.int (nI 1), .int (nI 1), .int (nI 0)]) (rest := []) ⟨hx, hb, hml, hown, hts⟩ (c_X4_throwing l dC dI cs b g h s.heap.size 1 1 0 hB (by decide) (by decide) (by decide)) (cwV 3 hts gX4_row_X4_throwing rfl rfl rfl (by decide +kernel) ⟨Nat.le_of_ble_eq_true rfl, Nat.le_of_ble_eq_true rfl⟩) (wr_preV (q := (RX4, TX4, 29)) hP hK hD 0 rfl rfl) rfl rfl hl.1 rfl (lv_room (Nat.le_of_ble_eq_true rfl)) dX4_row_56 ⟨Nat.zero_le _, Nat.zero_le _⟩) hS hD hA rfl (fun H locs hP hD hS => ?_)
      have hP : va_P (dC, dI) vwCl (wM cs b (un g 0 1) h) H := hP
      have hD : va_D A (wM cs b (un g 0 1) h) := hD
      refine W.eq (g2 := F0 m 59 ls (.int (nI 1) :: [])) rfl ?_
      have hB : m_bd (un g 0 1) := by (unfold m_bd un; simp; omega)
      refine lv_if_eq (tgt := 64) hx hb dX4_row_59 (by decide) (fun c => absurd c (by decide)) (fun _ => ?_)
      refine lv_iconst (v := nI 0) hx hb dX4_row_62 (by decide) ?_
      exact wr_iret hx hb hr hlocks hP hS dX4_row_63
    · refine lv_iconst (v := nI 1) hx hb dX4_row_51 (by decide) ?_
      refine lv_goto (tgt := 56) hx hb dX4_row_52 (by decide) ?_
      refine wr_calli (va_runV (As := [.int (nI 1), .int (nI 1), .int (nI 1)]) (rest := []) ⟨hx, hb, hml, hown, hts⟩ (c_X4_throwing l dC dI cs b g h s.heap.size 1 1 1 hB (by decide) (by decide) (by decide)) (cwV 3 hts gX4_row_X4_throwing rfl rfl rfl (by decide +kernel) ⟨Nat.le_of_ble_eq_true rfl, Nat.le_of_ble_eq_true rfl⟩) (wr_preV (q := (RX4, TX4, 29)) hP hK hD 0 rfl rfl) rfl rfl hl.1 rfl (lv_room (Nat.le_of_ble_eq_true rfl)) dX4_row_56 ⟨Nat.zero_le _, Nat.zero_le _⟩) hS hD hA rfl (fun H locs hP hD hS => ?_)
      have hP : va_P (dC, dI) vwCl (wM cs b (un g 0 1) h) H := hP
      have hD : va_D A (wM cs b (un g 0 1) h) := hD
      refine W.eq (g2 := F0 m 59 ls (.int (nI 1) :: [])) rfl ?_
      have hB : m_bd (un g 0 1) := by (unfold m_bd un; simp; omega)
      refine lv_if_eq (tgt := 64) hx hb dX4_row_59 (by decide) (fun c => absurd c (by decide)) (fun _ => ?_)
      refine lv_iconst (v := nI 0) hx hb dX4_row_62 (by decide) ?_
      exact wr_iret hx hb hr hlocks hP hS dX4_row_63

set_option maxHeartbeats 4000000 in
set_option maxRecDepth 100000 in
theorem c_X4_row_x2 (l : Launch) (dC : Nat → ClassId) (dI : Nat → Nat → Nat) (cs : ClassId × ClassId) (b g : Nat → Nat) (h : Nat → Nat → Int32) (sz : Nat) (j : Nat) (z : Int32) (hat : m_at g j = -1) (hB : m_bd g) (h1 : j < g 3)  : Met l yX4_row wsX4_row ({ frames := 1, cells := 0, slots := 0, locals := 23 }) (wrPc (dC, dI) vwCl (wM cs b g h) (tyl cs) sz [.ref (b 0), .int (nI j), .int z]) (wrQ (dC, dI) vwCl (wM cs b (un g 0 2) h) (some (.int (nI 0))) (va_A (wM cs b g h) sz)) 0 0 (va_A (wM cs b g h) sz) := by
  refine wr_of (cc := cX4_row) (maxL := 4) (ret := (some .int)) (own := RX4) (by decide) rfl rfl (Nat.le_of_ble_eq_true rfl) ?_
  intro p e s m below meth c A hsz hAe hx hb hr hml hts hown hlocks hP hK hD hA hS ls hl
  have hl : lv_has ls 4 [(0, .ref (b 0)), (1, .int (nI j)), (2, .int z)] := hl
  obtain ⟨M1, M2, M3, M4, M5, M6, M7, M8, M9, M10, M11, M12, M13, M14, M15, M16⟩ := id hB
  refine lv_aload_n hx hb dX4_row_0 rfl (lv_at hl 0 rfl) ?_
  refine lv_iload_n hx hb dX4_row_1 rfl (lv_at hl 1 rfl) ?_
  refine W.callR (W.runV (As := [.int (nI j)]) (rest := []) ⟨hx, hb, hml, hown, hts⟩ (c_X4_isPlace l dC dI cs b g h (nI j) hB) (cwV 1 hts gX4_row_X4_isPlace rfl rfl rfl (by decide +kernel) ⟨Nat.le_of_ble_eq_true rfl, Nat.le_of_ble_eq_true rfl⟩) (rd_preV (q := (RX4, TX4, 29)) hP hK 0 rfl rfl) rfl rfl hl.1 rfl (lv_room (Nat.le_of_ble_eq_true rfl)) dX4_row_2 ⟨Nat.zero_le _, Nat.zero_le _⟩) ?_
  refine W.eq (g2 := F0 m 5 ls (.int (b2i (inB (nI j) (g 3))) :: [])) rfl ?_
  refine lv_if_eq (tgt := 16) hx hb dX4_row_5 (by decide) (fun c_1 => absurd (b2i_f c_1) (by rw [inB_nI (by omega) (by omega)]; simp; omega)) (fun c_1 => ?_)
  have c_1 : inB (nI j) (g 3) = true := b2i_t c_1
  refine lv_aload_n hx hb dX4_row_8 rfl (lv_at hl 0 rfl) ?_
  refine lv_iload_n hx hb dX4_row_9 rfl (lv_at hl 1 rfl) ?_
  refine W.callR (W.runV (As := [.int (nI j)]) (rest := []) ⟨hx, hb, hml, hown, hts⟩ (c_X4_at l dC dI cs b g h j hB (by first | omega | assumption)) (cwV 1 hts gX4_row_X4_at rfl rfl rfl (by decide +kernel) ⟨Nat.le_of_ble_eq_true rfl, Nat.le_of_ble_eq_true rfl⟩) (rd_preV (q := (RX4, TX4, 29)) hP hK 0 rfl rfl) rfl rfl hl.1 rfl (lv_room (Nat.le_of_ble_eq_true rfl)) dX4_row_10 ⟨Nat.zero_le _, Nat.zero_le _⟩) ?_
  refine W.eq (g2 := F0 m 13 ls (.int (m_at g j) :: [])) rfl ?_
  refine tp_eq hat ?_
  refine lv_goto (tgt := 17) hx hb dX4_row_13 (by decide) ?_
  refine lv_istore_n (lv' := [(3, .int (-1)), (0, .ref (b 0)), (1, .int (nI j)), (2, .int z)]) hx hb dX4_row_17 rfl hl (by decide) rfl (fun ls hl => ?_)
  refine lv_aload_n hx hb dX4_row_18 rfl (lv_at hl 1 rfl) ?_
  refine lv_aload_n hx hb dX4_row_19 rfl (lv_at hl 1 rfl) ?_
  refine lv_iload_n hx hb dX4_row_20 rfl (lv_at hl 2 rfl) ?_
  refine W.callR (W.runV (As := [.int (nI j)]) (rest := [.ref (b 0)]) ⟨hx, hb, hml, hown, hts⟩ (c_X4_isPlace l dC dI cs b g h (nI j) hB) (cwV 1 hts gX4_row_X4_isPlace rfl rfl rfl (by decide +kernel) ⟨Nat.le_of_ble_eq_true rfl, Nat.le_of_ble_eq_true rfl⟩) (rd_preV (q := (RX4, TX4, 29)) hP hK 0 rfl rfl) rfl rfl hl.1 rfl (lv_room (Nat.le_of_ble_eq_true rfl)) dX4_row_21 ⟨Nat.zero_le _, Nat.zero_le _⟩) ?_
  refine W.eq (g2 := F0 m 24 ls (.int (b2i (inB (nI j) (g 3))) :: [.ref (b 0)])) rfl ?_
  refine lv_if_ne (tgt := 31) hx hb dX4_row_24 (by decide) (fun c_2 => ?_) (fun c_2 => absurd (b2i_f c_2) (by rw [inB_nI (by omega) (by omega)]; simp; omega))
  have c_2 : inB (nI j) (g 3) = true := b2i_t c_2
  refine lv_iconst (v := nI 0) hx hb dX4_row_31 (by decide) ?_
  refine lv_iload_n hx hb dX4_row_32 rfl (lv_at hl 0 rfl) ?_
  refine lv_if_ge (tgt := 40) hx hb dX4_row_33 (by decide) (fun c => absurd c (by decide)) (fun _ => ?_)
  refine lv_iconst (v := nI 1) hx hb dX4_row_36 (by decide) ?_
  refine lv_goto (tgt := 41) hx hb dX4_row_37 (by decide) ?_
  refine lv_iload_n hx hb dX4_row_41 rfl (lv_at hl 3 rfl) ?_
  refine lv_if_lt (tgt := 51) hx hb dX4_row_42 (by decide) (fun c_4 => ?_) (fun c_4 => ?_)
  · refine lv_iconst (v := nI 1) hx hb dX4_row_51 (by decide) ?_
    refine lv_goto (tgt := 56) hx hb dX4_row_52 (by decide) ?_
    refine wr_calli (va_runV (As := [.int (nI 0), .int (nI 1), .int (nI 1)]) (rest := []) ⟨hx, hb, hml, hown, hts⟩ (c_X4_throwing l dC dI cs b g h s.heap.size 0 1 1 hB (by decide) (by decide) (by decide)) (cwV 3 hts gX4_row_X4_throwing rfl rfl rfl (by decide +kernel) ⟨Nat.le_of_ble_eq_true rfl, Nat.le_of_ble_eq_true rfl⟩) (wr_preV (q := (RX4, TX4, 29)) hP hK hD 0 rfl rfl) rfl rfl hl.1 rfl (lv_room (Nat.le_of_ble_eq_true rfl)) dX4_row_56 ⟨Nat.zero_le _, Nat.zero_le _⟩) hS hD hA rfl (fun H locs hP hD hS => ?_)
    have hP : va_P (dC, dI) vwCl (wM cs b (un g 0 2) h) H := hP
    have hD : va_D A (wM cs b (un g 0 2) h) := hD
    refine W.eq (g2 := F0 m 59 ls (.int (nI 1) :: [])) rfl ?_
    have hB : m_bd (un g 0 2) := by (unfold m_bd un; simp; omega)
    refine lv_if_eq (tgt := 64) hx hb dX4_row_59 (by decide) (fun c => absurd c (by decide)) (fun _ => ?_)
    refine lv_iconst (v := nI 0) hx hb dX4_row_62 (by decide) ?_
    exact wr_iret hx hb hr hlocks hP hS dX4_row_63
  · refine lv_iload_n hx hb dX4_row_45 rfl (lv_at hl 3 rfl) ?_
    refine lv_bipush (v := nI 6) hx hb dX4_row_46 (by decide) ?_
    refine lv_icmp_le (tgt := 55) hx hb dX4_row_48 (by decide) (fun c_6 => ?_) (fun c_6 => ?_)
    · refine lv_iconst (v := nI 0) hx hb dX4_row_55 (by decide) ?_
      refine wr_calli (va_runV (As := [.int (nI 0), .int (nI 1), .int (nI 0)]) (rest := []) ⟨hx, hb, hml, hown, hts⟩ (c_X4_throwing l dC dI cs b g h s.heap.size 0 1 0 hB (by decide) (by decide) (by decide)) (cwV 3 hts gX4_row_X4_throwing rfl rfl rfl (by decide +kernel) ⟨Nat.le_of_ble_eq_true rfl, Nat.le_of_ble_eq_true rfl⟩) (wr_preV (q := (RX4, TX4, 29)) hP hK hD 0 rfl rfl) rfl rfl hl.1 rfl (lv_room (Nat.le_of_ble_eq_true rfl)) dX4_row_56 ⟨Nat.zero_le _, Nat.zero_le _⟩) hS hD hA rfl (fun H locs hP hD hS => ?_)
      have hP : va_P (dC, dI) vwCl (wM cs b (un g 0 2) h) H := hP
      have hD : va_D A (wM cs b (un g 0 2) h) := hD
      refine W.eq (g2 := F0 m 59 ls (.int (nI 1) :: [])) rfl ?_
      have hB : m_bd (un g 0 2) := by (unfold m_bd un; simp; omega)
      refine lv_if_eq (tgt := 64) hx hb dX4_row_59 (by decide) (fun c => absurd c (by decide)) (fun _ => ?_)
      refine lv_iconst (v := nI 0) hx hb dX4_row_62 (by decide) ?_
      exact wr_iret hx hb hr hlocks hP hS dX4_row_63
    · refine lv_iconst (v := nI 1) hx hb dX4_row_51 (by decide) ?_
      refine lv_goto (tgt := 56) hx hb dX4_row_52 (by decide) ?_
      refine wr_calli (va_runV (As := [.int (nI 0), .int (nI 1), .int (nI 1)]) (rest := []) ⟨hx, hb, hml, hown, hts⟩ (c_X4_throwing l dC dI cs b g h s.heap.size 0 1 1 hB (by decide) (by decide) (by decide)) (cwV 3 hts gX4_row_X4_throwing rfl rfl rfl (by decide +kernel) ⟨Nat.le_of_ble_eq_true rfl, Nat.le_of_ble_eq_true rfl⟩) (wr_preV (q := (RX4, TX4, 29)) hP hK hD 0 rfl rfl) rfl rfl hl.1 rfl (lv_room (Nat.le_of_ble_eq_true rfl)) dX4_row_56 ⟨Nat.zero_le _, Nat.zero_le _⟩) hS hD hA rfl (fun H locs hP hD hS => ?_)
      have hP : va_P (dC, dI) vwCl (wM cs b (un g 0 2) h) H := hP
      have hD : va_D A (wM cs b (un g 0 2) h) := hD
      refine W.eq (g2 := F0 m 59 ls (.int (nI 1) :: [])) rfl ?_
      have hB : m_bd (un g 0 2) := by (unfold m_bd un; simp; omega)
      refine lv_if_eq (tgt := 64) hx hb dX4_row_59 (by decide) (fun c => absurd c (by decide)) (fun _ => ?_)
      refine lv_iconst (v := nI 0) hx hb dX4_row_62 (by decide) ?_
      exact wr_iret hx hb hr hlocks hP hS dX4_row_63

set_option maxHeartbeats 4000000 in
set_option maxRecDepth 100000 in
theorem c_X4_row_x3 (l : Launch) (dC : Nat → ClassId) (dI : Nat → Nat → Nat) (cs : ClassId × ClassId) (b g : Nat → Nat) (h : Nat → Nat → Int32) (sz : Nat) (j : Nat) (z : Int32) (i : Nat) (hat : m_at g j = nI i) (hbad : z < 0 ∨ ¬ z ≤ nI 6) (hB : m_bd g) (h1 : j < g 3) (h2 : i < g 10)  : Met l yX4_row wsX4_row ({ frames := 1, cells := 0, slots := 0, locals := 23 }) (wrPc (dC, dI) vwCl (wM cs b g h) (tyl cs) sz [.ref (b 0), .int (nI j), .int z]) (wrQ (dC, dI) vwCl (wM cs b (un g 0 3) h) (some (.int (nI 0))) (va_A (wM cs b g h) sz)) 0 0 (va_A (wM cs b g h) sz) := by
  refine wr_of (cc := cX4_row) (maxL := 4) (ret := (some .int)) (own := RX4) (by decide) rfl rfl (Nat.le_of_ble_eq_true rfl) ?_
  intro p e s m below meth c A hsz hAe hx hb hr hml hts hown hlocks hP hK hD hA hS ls hl
  have hl : lv_has ls 4 [(0, .ref (b 0)), (1, .int (nI j)), (2, .int z)] := hl
  obtain ⟨M1, M2, M3, M4, M5, M6, M7, M8, M9, M10, M11, M12, M13, M14, M15, M16⟩ := id hB
  refine lv_aload_n hx hb dX4_row_0 rfl (lv_at hl 0 rfl) ?_
  refine lv_iload_n hx hb dX4_row_1 rfl (lv_at hl 1 rfl) ?_
  refine W.callR (W.runV (As := [.int (nI j)]) (rest := []) ⟨hx, hb, hml, hown, hts⟩ (c_X4_isPlace l dC dI cs b g h (nI j) hB) (cwV 1 hts gX4_row_X4_isPlace rfl rfl rfl (by decide +kernel) ⟨Nat.le_of_ble_eq_true rfl, Nat.le_of_ble_eq_true rfl⟩) (rd_preV (q := (RX4, TX4, 29)) hP hK 0 rfl rfl) rfl rfl hl.1 rfl (lv_room (Nat.le_of_ble_eq_true rfl)) dX4_row_2 ⟨Nat.zero_le _, Nat.zero_le _⟩) ?_
  refine W.eq (g2 := F0 m 5 ls (.int (b2i (inB (nI j) (g 3))) :: [])) rfl ?_
  refine lv_if_eq (tgt := 16) hx hb dX4_row_5 (by decide) (fun c_1 => absurd (b2i_f c_1) (by rw [inB_nI (by omega) (by omega)]; simp; omega)) (fun c_1 => ?_)
  have c_1 : inB (nI j) (g 3) = true := b2i_t c_1
  refine lv_aload_n hx hb dX4_row_8 rfl (lv_at hl 0 rfl) ?_
  refine lv_iload_n hx hb dX4_row_9 rfl (lv_at hl 1 rfl) ?_
  refine W.callR (W.runV (As := [.int (nI j)]) (rest := []) ⟨hx, hb, hml, hown, hts⟩ (c_X4_at l dC dI cs b g h j hB (by first | omega | assumption)) (cwV 1 hts gX4_row_X4_at rfl rfl rfl (by decide +kernel) ⟨Nat.le_of_ble_eq_true rfl, Nat.le_of_ble_eq_true rfl⟩) (rd_preV (q := (RX4, TX4, 29)) hP hK 0 rfl rfl) rfl rfl hl.1 rfl (lv_room (Nat.le_of_ble_eq_true rfl)) dX4_row_10 ⟨Nat.zero_le _, Nat.zero_le _⟩) ?_
  refine W.eq (g2 := F0 m 13 ls (.int (m_at g j) :: [])) rfl ?_
  refine tp_eq hat ?_
  refine lv_goto (tgt := 17) hx hb dX4_row_13 (by decide) ?_
  refine lv_istore_n (lv' := [(3, .int (nI i)), (0, .ref (b 0)), (1, .int (nI j)), (2, .int z)]) hx hb dX4_row_17 rfl hl (by decide) rfl (fun ls hl => ?_)
  refine lv_aload_n hx hb dX4_row_18 rfl (lv_at hl 1 rfl) ?_
  refine lv_aload_n hx hb dX4_row_19 rfl (lv_at hl 1 rfl) ?_
  refine lv_iload_n hx hb dX4_row_20 rfl (lv_at hl 2 rfl) ?_
  refine W.callR (W.runV (As := [.int (nI j)]) (rest := [.ref (b 0)]) ⟨hx, hb, hml, hown, hts⟩ (c_X4_isPlace l dC dI cs b g h (nI j) hB) (cwV 1 hts gX4_row_X4_isPlace rfl rfl rfl (by decide +kernel) ⟨Nat.le_of_ble_eq_true rfl, Nat.le_of_ble_eq_true rfl⟩) (rd_preV (q := (RX4, TX4, 29)) hP hK 0 rfl rfl) rfl rfl hl.1 rfl (lv_room (Nat.le_of_ble_eq_true rfl)) dX4_row_21 ⟨Nat.zero_le _, Nat.zero_le _⟩) ?_
  refine W.eq (g2 := F0 m 24 ls (.int (b2i (inB (nI j) (g 3))) :: [.ref (b 0)])) rfl ?_
  refine lv_if_ne (tgt := 31) hx hb dX4_row_24 (by decide) (fun c_2 => ?_) (fun c_2 => absurd (b2i_f c_2) (by rw [inB_nI (by omega) (by omega)]; simp; omega))
  have c_2 : inB (nI j) (g 3) = true := b2i_t c_2
  refine lv_iconst (v := nI 0) hx hb dX4_row_31 (by decide) ?_
  refine lv_iload_n hx hb dX4_row_32 rfl (lv_at hl 0 rfl) ?_
  refine lv_if_ge (tgt := 40) hx hb dX4_row_33 (by decide) (fun _ => ?_) (fun c => absurd (nI_pos' (by omega)) c)
  refine lv_iconst (v := nI 0) hx hb dX4_row_40 (by decide) ?_
  refine lv_iload_n hx hb dX4_row_41 rfl (lv_at hl 3 rfl) ?_
  refine lv_if_lt (tgt := 51) hx hb dX4_row_42 (by decide) (fun c_4 => ?_) (fun c_4 => ?_)
  · refine lv_iconst (v := nI 1) hx hb dX4_row_51 (by decide) ?_
    refine lv_goto (tgt := 56) hx hb dX4_row_52 (by decide) ?_
    refine wr_calli (va_runV (As := [.int (nI 0), .int (nI 0), .int (nI 1)]) (rest := []) ⟨hx, hb, hml, hown, hts⟩ (c_X4_throwing l dC dI cs b g h s.heap.size 0 0 1 hB (by decide) (by decide) (by decide)) (cwV 3 hts gX4_row_X4_throwing rfl rfl rfl (by decide +kernel) ⟨Nat.le_of_ble_eq_true rfl, Nat.le_of_ble_eq_true rfl⟩) (wr_preV (q := (RX4, TX4, 29)) hP hK hD 0 rfl rfl) rfl rfl hl.1 rfl (lv_room (Nat.le_of_ble_eq_true rfl)) dX4_row_56 ⟨Nat.zero_le _, Nat.zero_le _⟩) hS hD hA rfl (fun H locs hP hD hS => ?_)
    have hP : va_P (dC, dI) vwCl (wM cs b (un g 0 3) h) H := hP
    have hD : va_D A (wM cs b (un g 0 3) h) := hD
    refine W.eq (g2 := F0 m 59 ls (.int (nI 1) :: [])) rfl ?_
    have hB : m_bd (un g 0 3) := by (unfold m_bd un; simp; omega)
    refine lv_if_eq (tgt := 64) hx hb dX4_row_59 (by decide) (fun c => absurd c (by decide)) (fun _ => ?_)
    refine lv_iconst (v := nI 0) hx hb dX4_row_62 (by decide) ?_
    exact wr_iret hx hb hr hlocks hP hS dX4_row_63
  · refine lv_iload_n hx hb dX4_row_45 rfl (lv_at hl 3 rfl) ?_
    refine lv_bipush (v := nI 6) hx hb dX4_row_46 (by decide) ?_
    refine lv_icmp_le (tgt := 55) hx hb dX4_row_48 (by decide) (fun c_6 => ?_) (fun c_6 => ?_)
    · rcases hbad with q | q
      · exact absurd q c_4
      · exact absurd c_6 q
    · refine lv_iconst (v := nI 1) hx hb dX4_row_51 (by decide) ?_
      refine lv_goto (tgt := 56) hx hb dX4_row_52 (by decide) ?_
      refine wr_calli (va_runV (As := [.int (nI 0), .int (nI 0), .int (nI 1)]) (rest := []) ⟨hx, hb, hml, hown, hts⟩ (c_X4_throwing l dC dI cs b g h s.heap.size 0 0 1 hB (by decide) (by decide) (by decide)) (cwV 3 hts gX4_row_X4_throwing rfl rfl rfl (by decide +kernel) ⟨Nat.le_of_ble_eq_true rfl, Nat.le_of_ble_eq_true rfl⟩) (wr_preV (q := (RX4, TX4, 29)) hP hK hD 0 rfl rfl) rfl rfl hl.1 rfl (lv_room (Nat.le_of_ble_eq_true rfl)) dX4_row_56 ⟨Nat.zero_le _, Nat.zero_le _⟩) hS hD hA rfl (fun H locs hP hD hS => ?_)
      have hP : va_P (dC, dI) vwCl (wM cs b (un g 0 3) h) H := hP
      have hD : va_D A (wM cs b (un g 0 3) h) := hD
      refine W.eq (g2 := F0 m 59 ls (.int (nI 1) :: [])) rfl ?_
      have hB : m_bd (un g 0 3) := by (unfold m_bd un; simp; omega)
      refine lv_if_eq (tgt := 64) hx hb dX4_row_59 (by decide) (fun c => absurd c (by decide)) (fun _ => ?_)
      refine lv_iconst (v := nI 0) hx hb dX4_row_62 (by decide) ?_
      exact wr_iret hx hb hr hlocks hP hS dX4_row_63
