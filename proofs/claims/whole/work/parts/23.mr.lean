set_option maxHeartbeats 4000000 in
set_option maxRecDepth 100000 in
theorem c_X4_thrown (l : Launch) (dC : Nat → ClassId) (dI : Nat → Nat → Nat) (cs : ClassId × ClassId) (b g : Nat → Nat) (h : Nat → Nat → Int32) (hB : m_bd g)  : Met l yX4_thrown wsX4_thrown ({ frames := 0, cells := 0, slots := 0, locals := 0 }) (rdPc (dC, dI) vwCl (wM cs b g h) (tyl cs) [.ref (b 0)]) (QcRead (nI (g 0))) 0 0 (fun _ => False) := by
  refine rd_of (cc := cX4_thrown) (maxL := 1) (ret := (some .int)) (own := RX4) (by decide) rfl rfl (Nat.le_of_ble_eq_true rfl) ?_
  intro p e s m below meth c hx hb hr hml hts hown hlocks hP hK ls hl
  have hl : lv_has ls 1 [(0, .ref (b 0))] := hl
  have hinX4 : ∀ w ∈ wsX40, w ∈ wsX4_thrown := by decide +kernel
  obtain ⟨M1, M2, M3, M4, M5, M6, M7, M8, M9, M10, M11, M12, M13, M14, M15, M16⟩ := id hB
  refine lv_aload_n hx hb dX4_thrown_0 rfl (lv_at hl 0 rfl) ?_
  refine va_get (D := (dC, dI)) (ci := 5) (v := .int (nI (g 0))) (C := RX4) (T := TX4) (N := 29) hx hb hts hinX4 hown hK hP 0 rfl rfl 0 (by decide) (hts (.fieldLink RX4 76 "RenameRowsModel" "thrown" "I") (by decide +kernel)) (fun _ h9 => h9) rfl dX4_thrown_1 ?_
  exact rd_iret hx hb hr hlocks dX4_thrown_4

set_option maxHeartbeats 4000000 in
set_option maxRecDepth 100000 in
theorem c_X4_isRegister (l : Launch) (dC : Nat → ClassId) (dI : Nat → Nat → Nat) (cs : ClassId × ClassId) (b g : Nat → Nat) (h : Nat → Nat → Int32) (x : Int32) (hB : m_bd g)  : Met l yX4_isRegister wsX4_isRegister ({ frames := 0, cells := 0, slots := 0, locals := 0 }) (rdPc (dC, dI) vwCl (wM cs b g h) (tyl cs) [.ref (b 0), .int x]) (QcRead (b2i (inB x (g 1)))) 0 0 (fun _ => False) := by
  refine rd_of (cc := cX4_isRegister) (maxL := 2) (ret := (some .boolean)) (own := RX4) (by decide) rfl rfl (Nat.le_of_ble_eq_true rfl) ?_
  intro p e s m below meth c hx hb hr hml hts hown hlocks hP hK ls hl
  have hl : lv_has ls 2 [(0, .ref (b 0)), (1, .int x)] := hl
  have hinX4 : ∀ w ∈ wsX40, w ∈ wsX4_isRegister := by decide +kernel
  obtain ⟨M1, M2, M3, M4, M5, M6, M7, M8, M9, M10, M11, M12, M13, M14, M15, M16⟩ := id hB
  refine lv_iload_n hx hb dX4_isRegister_0 rfl (lv_at hl 1 rfl) ?_
  refine lv_if_lt (tgt := 16) hx hb dX4_isRegister_1 (by decide) (fun c_1 => ?_) (fun c_1 => ?_)
  · refine lv_iconst (v := nI 0) hx hb dX4_isRegister_16 (by decide) ?_
    refine tp_eq (b_0 (by first | exact inB_lt c_1 | exact inB_in c_1 c_2 | exact inB_ge' c_2) : _ = b2i (inB x (g 1))) ?_
    exact rd_zret hx hb hr hlocks dX4_isRegister_17
  · refine lv_iload_n hx hb dX4_isRegister_4 rfl (lv_at hl 1 rfl) ?_
    refine lv_aload_n hx hb dX4_isRegister_5 rfl (lv_at hl 0 rfl) ?_
    refine va_get (D := (dC, dI)) (ci := 5) (v := .int (nI (g 1))) (C := RX4) (T := TX4) (N := 29) hx hb hts hinX4 hown hK hP 0 rfl rfl 1 (by decide) (hts (.fieldLink RX4 63 "RenameRowsModel" "registers" "I") (by decide +kernel)) (fun _ h9 => h9) rfl dX4_isRegister_6 ?_
    refine lv_icmp_ge (tgt := 16) hx hb dX4_isRegister_9 (by decide) (fun c_2 => ?_) (fun c_2 => ?_)
    · refine lv_iconst (v := nI 0) hx hb dX4_isRegister_16 (by decide) ?_
      refine tp_eq (b_0 (by first | exact inB_lt c_1 | exact inB_in c_1 c_2 | exact inB_ge' c_2) : _ = b2i (inB x (g 1))) ?_
      exact rd_zret hx hb hr hlocks dX4_isRegister_17
    · refine lv_iconst (v := nI 1) hx hb dX4_isRegister_12 (by decide) ?_
      refine lv_goto (tgt := 17) hx hb dX4_isRegister_13 (by decide) ?_
      refine tp_eq (b_1 (by first | exact inB_lt c_1 | exact inB_in c_1 c_2 | exact inB_ge' c_2) : _ = b2i (inB x (g 1))) ?_
      exact rd_zret hx hb hr hlocks dX4_isRegister_17

set_option maxHeartbeats 4000000 in
set_option maxRecDepth 100000 in
theorem c_X4_isPlace (l : Launch) (dC : Nat → ClassId) (dI : Nat → Nat → Nat) (cs : ClassId × ClassId) (b g : Nat → Nat) (h : Nat → Nat → Int32) (x : Int32) (hB : m_bd g)  : Met l yX4_isPlace wsX4_isPlace ({ frames := 0, cells := 0, slots := 0, locals := 0 }) (rdPc (dC, dI) vwCl (wM cs b g h) (tyl cs) [.ref (b 0), .int x]) (QcRead (b2i (inB x (g 3)))) 0 0 (fun _ => False) := by
  refine rd_of (cc := cX4_isPlace) (maxL := 2) (ret := (some .boolean)) (own := RX4) (by decide) rfl rfl (Nat.le_of_ble_eq_true rfl) ?_
  intro p e s m below meth c hx hb hr hml hts hown hlocks hP hK ls hl
  have hl : lv_has ls 2 [(0, .ref (b 0)), (1, .int x)] := hl
  have hinX4 : ∀ w ∈ wsX40, w ∈ wsX4_isPlace := by decide +kernel
  obtain ⟨M1, M2, M3, M4, M5, M6, M7, M8, M9, M10, M11, M12, M13, M14, M15, M16⟩ := id hB
  refine lv_iload_n hx hb dX4_isPlace_0 rfl (lv_at hl 1 rfl) ?_
  refine lv_if_lt (tgt := 16) hx hb dX4_isPlace_1 (by decide) (fun c_1 => ?_) (fun c_1 => ?_)
  · refine lv_iconst (v := nI 0) hx hb dX4_isPlace_16 (by decide) ?_
    refine tp_eq (b_0 (by first | exact inB_lt c_1 | exact inB_in c_1 c_2 | exact inB_ge' c_2) : _ = b2i (inB x (g 3))) ?_
    exact rd_zret hx hb hr hlocks dX4_isPlace_17
  · refine lv_iload_n hx hb dX4_isPlace_4 rfl (lv_at hl 1 rfl) ?_
    refine lv_aload_n hx hb dX4_isPlace_5 rfl (lv_at hl 0 rfl) ?_
    refine va_get (D := (dC, dI)) (ci := 5) (v := .int (nI (g 3))) (C := RX4) (T := TX4) (N := 29) hx hb hts hinX4 hown hK hP 0 rfl rfl 3 (by decide) (hts (.fieldLink RX4 70 "RenameRowsModel" "places" "I") (by decide +kernel)) (fun _ h9 => h9) rfl dX4_isPlace_6 ?_
    refine lv_icmp_ge (tgt := 16) hx hb dX4_isPlace_9 (by decide) (fun c_2 => ?_) (fun c_2 => ?_)
    · refine lv_iconst (v := nI 0) hx hb dX4_isPlace_16 (by decide) ?_
      refine tp_eq (b_0 (by first | exact inB_lt c_1 | exact inB_in c_1 c_2 | exact inB_ge' c_2) : _ = b2i (inB x (g 3))) ?_
      exact rd_zret hx hb hr hlocks dX4_isPlace_17
    · refine lv_iconst (v := nI 1) hx hb dX4_isPlace_12 (by decide) ?_
      refine lv_goto (tgt := 17) hx hb dX4_isPlace_13 (by decide) ?_
      refine tp_eq (b_1 (by first | exact inB_lt c_1 | exact inB_in c_1 c_2 | exact inB_ge' c_2) : _ = b2i (inB x (g 3))) ?_
      exact rd_zret hx hb hr hlocks dX4_isPlace_17

set_option maxHeartbeats 4000000 in
set_option maxRecDepth 100000 in
theorem c_X4_isMark (l : Launch) (dC : Nat → ClassId) (dI : Nat → Nat → Nat) (cs : ClassId × ClassId) (b g : Nat → Nat) (h : Nat → Nat → Int32) (x : Int32) (hB : m_bd g)  : Met l yX4_isMark wsX4_isMark ({ frames := 0, cells := 0, slots := 0, locals := 0 }) (rdPc (dC, dI) vwCl (wM cs b g h) (tyl cs) [.ref (b 0), .int x]) (QcRead (b2i (inB x 8))) 0 0 (fun _ => False) := by
  refine rd_of (cc := cX4_isMark) (maxL := 2) (ret := (some .boolean)) (own := RX4) (by decide) rfl rfl (Nat.le_of_ble_eq_true rfl) ?_
  intro p e s m below meth c hx hb hr hml hts hown hlocks hP hK ls hl
  have hl : lv_has ls 2 [(0, .ref (b 0)), (1, .int x)] := hl
  obtain ⟨M1, M2, M3, M4, M5, M6, M7, M8, M9, M10, M11, M12, M13, M14, M15, M16⟩ := id hB
  refine lv_iload_n hx hb dX4_isMark_0 rfl (lv_at hl 1 rfl) ?_
  refine lv_if_lt (tgt := 14) hx hb dX4_isMark_1 (by decide) (fun c_1 => ?_) (fun c_1 => ?_)
  · refine lv_iconst (v := nI 0) hx hb dX4_isMark_14 (by decide) ?_
    refine tp_eq (b_0 (by first | exact inB_lt c_1 | exact inB_in c_1 c_2 | exact inB_ge' c_2) : _ = b2i (inB x 8)) ?_
    exact rd_zret hx hb hr hlocks dX4_isMark_15
  · refine lv_iload_n hx hb dX4_isMark_4 rfl (lv_at hl 1 rfl) ?_
    refine lv_bipush (v := nI 8) hx hb dX4_isMark_5 (by decide) ?_
    refine lv_icmp_ge (tgt := 14) hx hb dX4_isMark_7 (by decide) (fun c_2 => ?_) (fun c_2 => ?_)
    · refine lv_iconst (v := nI 0) hx hb dX4_isMark_14 (by decide) ?_
      refine tp_eq (b_0 (by first | exact inB_lt c_1 | exact inB_in c_1 c_2 | exact inB_ge' c_2) : _ = b2i (inB x 8)) ?_
      exact rd_zret hx hb hr hlocks dX4_isMark_15
    · refine lv_iconst (v := nI 1) hx hb dX4_isMark_10 (by decide) ?_
      refine lv_goto (tgt := 15) hx hb dX4_isMark_11 (by decide) ?_
      refine tp_eq (b_1 (by first | exact inB_lt c_1 | exact inB_in c_1 c_2 | exact inB_ge' c_2) : _ = b2i (inB x 8)) ?_
      exact rd_zret hx hb hr hlocks dX4_isMark_15

set_option maxHeartbeats 4000000 in
set_option maxRecDepth 100000 in
theorem c_X4_isReady (l : Launch) (dC : Nat → ClassId) (dI : Nat → Nat → Nat) (cs : ClassId × ClassId) (b g : Nat → Nat) (h : Nat → Nat → Int32) (x : Int32) (hok : m_ok x) (hB : m_bd g)  : Met l yX4_isReady wsX4_isReady ({ frames := 0, cells := 0, slots := 0, locals := 0 }) (rdPc (dC, dI) vwCl (wM cs b g h) (tyl cs) [.ref (b 0), .int x]) (QcRead (b2i (m_rdy h x))) 0 0 (fun _ => False) := by
  refine rd_of (cc := cX4_isReady) (maxL := 2) (ret := (some .boolean)) (own := RX4) (by decide) rfl rfl (Nat.le_of_ble_eq_true rfl) ?_
  intro p e s m below meth c hx hb hr hml hts hown hlocks hP hK ls hl
  have hl : lv_has ls 2 [(0, .ref (b 0)), (1, .int x)] := hl
  have hinX4 : ∀ w ∈ wsX40, w ∈ wsX4_isReady := by decide +kernel
  obtain ⟨M1, M2, M3, M4, M5, M6, M7, M8, M9, M10, M11, M12, M13, M14, M15, M16⟩ := id hB
  refine lv_iload_n hx hb dX4_isReady_0 rfl (lv_at hl 1 rfl) ?_
  refine lv_if_lt (tgt := 13) hx hb dX4_isReady_1 (by decide) (fun c_1 => ?_) (fun c_1 => ?_)
  · refine lv_iconst (v := nI 1) hx hb dX4_isReady_13 (by decide) ?_
    refine lv_goto (tgt := 18) hx hb dX4_isReady_14 (by decide) ?_
    refine tp_eq (b_1 (by first | (simp [m_rdy, c_1]; done) | (simp [nI_0, m_rdy, c_1]; done) | (simp [m_rdy, c_1]; omega)) : _ = b2i (m_rdy h x)) ?_
    exact rd_zret hx hb hr hlocks dX4_isReady_18
  · obtain ⟨jx, hjx, rfl⟩ := m_ok_j hok c_1
    refine lv_aload_n hx hb dX4_isReady_4 rfl (lv_at hl 0 rfl) ?_
    refine va_get (D := (dC, dI)) (ci := 5) (v := .ref (b 7)) (C := RX4) (T := TX4) (N := 29) hx hb hts hinX4 hown hK hP 0 rfl rfl 7 (by decide) (hts (.fieldLink RX4 19 "RenameRowsModel" "ready" "[Z") (by decide +kernel)) (fun _ h9 => h9) rfl dX4_isReady_5 ?_
    refine lv_iload_n hx hb dX4_isReady_8 rfl (lv_at hl 1 rfl) ?_
    refine ar_zld (D := (dC, dI)) (n := 96) (f := h 7) hx hb hK hP 4 1 rfl rfl (by omega) (by omega) dX4_isReady_9 ?_
    refine lv_if_eq (tgt := 17) hx hb dX4_isReady_10 (by decide) (fun c_2 => ?_) (fun c_2 => ?_)
    · refine lv_iconst (v := nI 0) hx hb dX4_isReady_17 (by decide) ?_
      refine tp_eq (b_0 (by first | (simp [m_rdy, c_1, c_2, cl32_nI (show jx < 2 ^ 31 by omega)]; done) | (simp [nI_0, m_rdy, c_1, c_2, cl32_nI (show jx < 2 ^ 31 by omega)]; done) | (simp [m_rdy, c_1, c_2, cl32_nI (show jx < 2 ^ 31 by omega)]; omega)) : _ = b2i (m_rdy h (nI jx))) ?_
      exact rd_zret hx hb hr hlocks dX4_isReady_18
    · refine lv_iconst (v := nI 1) hx hb dX4_isReady_13 (by decide) ?_
      refine lv_goto (tgt := 18) hx hb dX4_isReady_14 (by decide) ?_
      refine tp_eq (b_1 (by first | (simp [m_rdy, c_1, c_2, cl32_nI (show jx < 2 ^ 31 by omega)]; done) | (simp [nI_0, m_rdy, c_1, c_2, cl32_nI (show jx < 2 ^ 31 by omega)]; done) | (simp [m_rdy, c_1, c_2, cl32_nI (show jx < 2 ^ 31 by omega)]; omega)) : _ = b2i (m_rdy h (nI jx))) ?_
      exact rd_zret hx hb hr hlocks dX4_isReady_18

set_option maxHeartbeats 4000000 in
set_option maxRecDepth 100000 in
theorem c_X4_mayGo (l : Launch) (dC : Nat → ClassId) (dI : Nat → Nat → Nat) (cs : ClassId × ClassId) (b g : Nat → Nat) (h : Nat → Nat → Int32) (i : Nat) (hB : m_bd g) (h1 : i < 64) (h2 : m_ok (h 12 i)) (h3 : m_ok (h 13 i))  : Met l yX4_mayGo wsX4_mayGo ({ frames := 1, cells := 0, slots := 0, locals := 21 }) (rdPc (dC, dI) vwCl (wM cs b g h) (tyl cs) [.ref (b 0), .int (nI i)]) (QcRead (b2i (m_may h i))) 0 0 (fun _ => False) := by
  refine rd_of (cc := cX4_mayGo) (maxL := 2) (ret := (some .boolean)) (own := RX4) (by decide) rfl rfl (Nat.le_of_ble_eq_true rfl) ?_
  intro p e s m below meth c hx hb hr hml hts hown hlocks hP hK ls hl
  have hl : lv_has ls 2 [(0, .ref (b 0)), (1, .int (nI i))] := hl
  have hinX4 : ∀ w ∈ wsX40, w ∈ wsX4_mayGo := by decide +kernel
  obtain ⟨M1, M2, M3, M4, M5, M6, M7, M8, M9, M10, M11, M12, M13, M14, M15, M16⟩ := id hB
  refine lv_aload_n hx hb dX4_mayGo_0 rfl (lv_at hl 0 rfl) ?_
  refine va_get (D := (dC, dI)) (ci := 5) (v := .ref (b 18)) (C := RX4) (T := TX4) (N := 29) hx hb hts hinX4 hown hK hP 0 rfl rfl 18 (by decide) (hts (.fieldLink RX4 44 "RenameRowsModel" "state" "[I") (by decide +kernel)) (fun _ h9 => h9) rfl dX4_mayGo_1 ?_
  refine lv_iload_n hx hb dX4_mayGo_4 rfl (lv_at hl 1 rfl) ?_
  refine ar_ld (D := (dC, dI)) (n := 64) (f := h 18) hx hb hK hP 12 0 rfl rfl (by omega) (by omega) dX4_mayGo_5 ?_
  refine lv_if_ne (tgt := 39) hx hb dX4_mayGo_6 (by decide) (fun c_1 => ?_) (fun c_1 => ?_)
  · refine lv_iconst (v := nI 0) hx hb dX4_mayGo_39 (by decide) ?_
    refine tp_eq (b_0 (by first | (simp [m_may, c_1]; done) | (simp [nI_0, m_may, c_1]; done) | (simp [m_may, c_1]; omega)) : _ = b2i (m_may h i)) ?_
    exact rd_zret hx hb hr hlocks dX4_mayGo_40
  · refine lv_aload_n hx hb dX4_mayGo_9 rfl (lv_at hl 0 rfl) ?_
    refine lv_aload_n hx hb dX4_mayGo_10 rfl (lv_at hl 0 rfl) ?_
    refine va_get (D := (dC, dI)) (ci := 5) (v := .ref (b 12)) (C := RX4) (T := TX4) (N := 29) hx hb hts hinX4 hown hK hP 0 rfl rfl 12 (by decide) (hts (.fieldLink RX4 26 "RenameRowsModel" "first" "[I") (by decide +kernel)) (fun _ h9 => h9) rfl dX4_mayGo_11 ?_
    refine lv_iload_n hx hb dX4_mayGo_14 rfl (lv_at hl 1 rfl) ?_
    refine ar_ld (D := (dC, dI)) (n := 64) (f := h 12) hx hb hK hP 6 0 rfl rfl (by omega) (by omega) dX4_mayGo_15 ?_
    refine W.callR (W.runV (As := [.int (h 12 i)]) (rest := []) ⟨hx, hb, hml, hown, hts⟩ (c_X4_isReady l dC dI cs b g h (h 12 i) (by assumption) hB) (cwV 1 hts gX4_mayGo_X4_isReady rfl rfl rfl (by decide +kernel) ⟨Nat.le_of_ble_eq_true rfl, Nat.le_of_ble_eq_true rfl⟩) (rd_preV (q := (RX4, TX4, 29)) hP hK 0 rfl rfl) rfl rfl hl.1 rfl (lv_room (Nat.le_of_ble_eq_true rfl)) dX4_mayGo_16 ⟨Nat.zero_le _, Nat.zero_le _⟩) ?_
    refine W.eq (g2 := F0 m 19 ls (.int (b2i (m_rdy h (h 12 i))) :: [])) rfl ?_
    refine lv_if_eq (tgt := 39) hx hb dX4_mayGo_19 (by decide) (fun c_2 => ?_) (fun c_2 => ?_)
    · have c_2 : m_rdy h (h 12 i) = false := b2i_f c_2
      refine lv_iconst (v := nI 0) hx hb dX4_mayGo_39 (by decide) ?_
      refine tp_eq (b_0 (by first | (simp [m_may, c_1, c_2]; done) | (simp [nI_0, m_may, c_1, c_2]; done) | (simp [m_may, c_1, c_2]; omega)) : _ = b2i (m_may h i)) ?_
      exact rd_zret hx hb hr hlocks dX4_mayGo_40
    · have c_2 : m_rdy h (h 12 i) = true := b2i_t c_2
      refine lv_aload_n hx hb dX4_mayGo_22 rfl (lv_at hl 0 rfl) ?_
      refine lv_aload_n hx hb dX4_mayGo_23 rfl (lv_at hl 0 rfl) ?_
      refine va_get (D := (dC, dI)) (ci := 5) (v := .ref (b 13)) (C := RX4) (T := TX4) (N := 29) hx hb hts hinX4 hown hK hP 0 rfl rfl 13 (by decide) (hts (.fieldLink RX4 29 "RenameRowsModel" "second" "[I") (by decide +kernel)) (fun _ h9 => h9) rfl dX4_mayGo_24 ?_
      refine lv_iload_n hx hb dX4_mayGo_27 rfl (lv_at hl 1 rfl) ?_
      refine ar_ld (D := (dC, dI)) (n := 64) (f := h 13) hx hb hK hP 7 0 rfl rfl (by omega) (by omega) dX4_mayGo_28 ?_
      refine W.callR (W.runV (As := [.int (h 13 i)]) (rest := []) ⟨hx, hb, hml, hown, hts⟩ (c_X4_isReady l dC dI cs b g h (h 13 i) (by assumption) hB) (cwV 1 hts gX4_mayGo_X4_isReady rfl rfl rfl (by decide +kernel) ⟨Nat.le_of_ble_eq_true rfl, Nat.le_of_ble_eq_true rfl⟩) (rd_preV (q := (RX4, TX4, 29)) hP hK 0 rfl rfl) rfl rfl hl.1 rfl (lv_room (Nat.le_of_ble_eq_true rfl)) dX4_mayGo_29 ⟨Nat.zero_le _, Nat.zero_le _⟩) ?_
      refine W.eq (g2 := F0 m 32 ls (.int (b2i (m_rdy h (h 13 i))) :: [])) rfl ?_
      refine lv_if_eq (tgt := 39) hx hb dX4_mayGo_32 (by decide) (fun c_3 => ?_) (fun c_3 => ?_)
      · have c_3 : m_rdy h (h 13 i) = false := b2i_f c_3
        refine lv_iconst (v := nI 0) hx hb dX4_mayGo_39 (by decide) ?_
        refine tp_eq (b_0 (by first | (simp [m_may, c_1, c_2, c_3]; done) | (simp [nI_0, m_may, c_1, c_2, c_3]; done) | (simp [m_may, c_1, c_2, c_3]; omega)) : _ = b2i (m_may h i)) ?_
        exact rd_zret hx hb hr hlocks dX4_mayGo_40
      · have c_3 : m_rdy h (h 13 i) = true := b2i_t c_3
        refine lv_iconst (v := nI 1) hx hb dX4_mayGo_35 (by decide) ?_
        refine lv_goto (tgt := 40) hx hb dX4_mayGo_36 (by decide) ?_
        refine tp_eq (b_1 (by first | (simp [m_may, c_1, c_2, c_3]; done) | (simp [nI_0, m_may, c_1, c_2, c_3]; done) | (simp [m_may, c_1, c_2, c_3]; omega)) : _ = b2i (m_may h i)) ?_
        exact rd_zret hx hb hr hlocks dX4_mayGo_40

set_option maxHeartbeats 4000000 in
set_option maxRecDepth 100000 in
theorem c_X4_placeOf (l : Launch) (dC : Nat → ClassId) (dI : Nat → Nat → Nat) (cs : ClassId × ClassId) (b g : Nat → Nat) (h : Nat → Nat → Int32) (i : Nat) (hB : m_bd g) (h1 : i < 1000)  : Met l yX4_placeOf wsX4_placeOf ({ frames := 0, cells := 0, slots := 0, locals := 0 }) (rdPc (dC, dI) vwCl (wM cs b g h) (tyl cs) [.ref (b 0), .int (nI i)]) (QcRead (nI (m_pos g i))) 0 0 (fun _ => False) := by
  refine rd_of (cc := cX4_placeOf) (maxL := 2) (ret := (some .int)) (own := RX4) (by decide) rfl rfl (Nat.le_of_ble_eq_true rfl) ?_
  intro p e s m below meth c hx hb hr hml hts hown hlocks hP hK ls hl
  have hl : lv_has ls 2 [(0, .ref (b 0)), (1, .int (nI i))] := hl
  have hinX4 : ∀ w ∈ wsX40, w ∈ wsX4_placeOf := by decide +kernel
  obtain ⟨M1, M2, M3, M4, M5, M6, M7, M8, M9, M10, M11, M12, M13, M14, M15, M16⟩ := id hB
  refine lv_aload_n hx hb dX4_placeOf_0 rfl (lv_at hl 0 rfl) ?_
  refine va_get (D := (dC, dI)) (ci := 5) (v := .int (nI (g 11))) (C := RX4) (T := TX4) (N := 29) hx hb hts hinX4 hown hK hP 0 rfl rfl 11 (by decide) (hts (.fieldLink RX4 83 "RenameRowsModel" "head" "I") (by decide +kernel)) (fun _ h9 => h9) rfl dX4_placeOf_1 ?_
  refine lv_iload_n hx hb dX4_placeOf_4 rfl (lv_at hl 1 rfl) ?_
  refine lv_iadd hx hb dX4_placeOf_5 ?_
  refine tp_eq (nI_add (g 11) i) ?_
  refine lv_aload_n hx hb dX4_placeOf_6 rfl (lv_at hl 0 rfl) ?_
  refine va_get (D := (dC, dI)) (ci := 5) (v := .int (nI (g 3))) (C := RX4) (T := TX4) (N := 29) hx hb hts hinX4 hown hK hP 0 rfl rfl 3 (by decide) (hts (.fieldLink RX4 70 "RenameRowsModel" "places" "I") (by decide +kernel)) (fun _ h9 => h9) rfl dX4_placeOf_7 ?_
  refine lv_irem hx hb dX4_placeOf_10 (nI_ne0 (by omega) (by omega)) ?_
  refine tp_eq (pk_rem (by omega) (by omega) (by omega)) ?_
  refine tp_eq (show _ = nI (m_pos g i) by rfl) ?_
  exact rd_iret hx hb hr hlocks dX4_placeOf_11

set_option maxHeartbeats 4000000 in
set_option maxRecDepth 100000 in
theorem c_X4_at (l : Launch) (dC : Nat → ClassId) (dI : Nat → Nat → Nat) (cs : ClassId × ClassId) (b g : Nat → Nat) (h : Nat → Nat → Int32) (j : Nat) (hB : m_bd g) (h1 : j < g 3)  : Met l yX4_at wsX4_at ({ frames := 0, cells := 0, slots := 0, locals := 0 }) (rdPc (dC, dI) vwCl (wM cs b g h) (tyl cs) [.ref (b 0), .int (nI j)]) (QcRead (m_at g j)) 0 0 (fun _ => False) := by
  refine rd_of (cc := cX4_at) (maxL := 3) (ret := (some .int)) (own := RX4) (by decide) rfl rfl (Nat.le_of_ble_eq_true rfl) ?_
  intro p e s m below meth c hx hb hr hml hts hown hlocks hP hK ls hl
  have hl : lv_has ls 3 [(0, .ref (b 0)), (1, .int (nI j))] := hl
  have hinX4 : ∀ w ∈ wsX40, w ∈ wsX4_at := by decide +kernel
  obtain ⟨M1, M2, M3, M4, M5, M6, M7, M8, M9, M10, M11, M12, M13, M14, M15, M16⟩ := id hB
  refine lv_iload_n hx hb dX4_at_0 rfl (lv_at hl 1 rfl) ?_
  refine lv_aload_n hx hb dX4_at_1 rfl (lv_at hl 0 rfl) ?_
  refine va_get (D := (dC, dI)) (ci := 5) (v := .int (nI (g 11))) (C := RX4) (T := TX4) (N := 29) hx hb hts hinX4 hown hK hP 0 rfl rfl 11 (by decide) (hts (.fieldLink RX4 83 "RenameRowsModel" "head" "I") (by decide +kernel)) (fun _ h9 => h9) rfl dX4_at_2 ?_
  refine lv_isub hx hb dX4_at_5 ?_
  refine lv_aload_n hx hb dX4_at_6 rfl (lv_at hl 0 rfl) ?_
  refine va_get (D := (dC, dI)) (ci := 5) (v := .int (nI (g 3))) (C := RX4) (T := TX4) (N := 29) hx hb hts hinX4 hown hK hP 0 rfl rfl 3 (by decide) (hts (.fieldLink RX4 70 "RenameRowsModel" "places" "I") (by decide +kernel)) (fun _ h9 => h9) rfl dX4_at_7 ?_
  refine lv_iadd hx hb dX4_at_10 ?_
  refine tp_eq (nI_sa (by omega)) ?_
  refine lv_aload_n hx hb dX4_at_11 rfl (lv_at hl 0 rfl) ?_
  refine va_get (D := (dC, dI)) (ci := 5) (v := .int (nI (g 3))) (C := RX4) (T := TX4) (N := 29) hx hb hts hinX4 hown hK hP 0 rfl rfl 3 (by decide) (hts (.fieldLink RX4 70 "RenameRowsModel" "places" "I") (by decide +kernel)) (fun _ h9 => h9) rfl dX4_at_12 ?_
  refine lv_irem hx hb dX4_at_15 (nI_ne0 (by omega) (by omega)) ?_
  refine tp_eq (pk_rem (by omega) (by omega) (by omega)) ?_
  have k9 : (j + (g 3) - (g 11)) % (g 3) < g 3 := Nat.mod_lt _ (by omega)
  refine lv_istore_n (lv' := [(2, .int (nI ((j + (g 3) - (g 11)) % (g 3)))), (0, .ref (b 0)), (1, .int (nI j))]) hx hb dX4_at_16 rfl hl (by decide) rfl (fun ls hl => ?_)
  refine lv_iload_n hx hb dX4_at_17 rfl (lv_at hl 0 rfl) ?_
  refine lv_aload_n hx hb dX4_at_18 rfl (lv_at hl 1 rfl) ?_
  refine va_get (D := (dC, dI)) (ci := 5) (v := .int (nI (g 10))) (C := RX4) (T := TX4) (N := 29) hx hb hts hinX4 hown hK hP 0 rfl rfl 10 (by decide) (hts (.fieldLink RX4 86 "RenameRowsModel" "rows" "I") (by decide +kernel)) (fun _ h9 => h9) rfl dX4_at_19 ?_
  refine lv_icmp_ge (tgt := 29) hx hb dX4_at_22 (by decide) (fun c_1 => ?_) (fun c_1 => ?_)
  · have c_1 : (g 10) ≤ ((j + (g 3) - (g 11)) % (g 3)) := (nI_leI (by omega) (by omega)).mp c_1
    refine lv_iconst (v := (-1)) hx hb dX4_at_29 (by decide) ?_
    refine tp_eq (show _ = m_at g j by first | (rw [m_at, m_atv, if_pos (by omega)]; done) | (rw [m_at, m_atv, if_neg (by omega)]; done)) ?_
    exact rd_iret hx hb hr hlocks dX4_at_30
  · have c_1 : ¬ (g 10) ≤ ((j + (g 3) - (g 11)) % (g 3)) := fun q => c_1 ((nI_leI (by omega) (by omega)).mpr q)
    refine lv_iload_n hx hb dX4_at_25 rfl (lv_at hl 0 rfl) ?_
    refine lv_goto (tgt := 30) hx hb dX4_at_26 (by decide) ?_
    refine tp_eq (show _ = m_at g j by first | (rw [m_at, m_atv, if_pos (by omega)]; done) | (rw [m_at, m_atv, if_neg (by omega)]; done)) ?_
    exact rd_iret hx hb hr hlocks dX4_at_30

set_option maxHeartbeats 4000000 in
set_option maxRecDepth 100000 in
theorem c_X4_mayGoAll (l : Launch) (dC : Nat → ClassId) (dI : Nat → Nat → Nat) (cs : ClassId × ClassId) (b g : Nat → Nat) (h : Nat → Nat → Int32) (hok : m_okr g h) (hB : m_bd g)  : Met l yX4_mayGoAll wsX4_mayGoAll ({ frames := 2, cells := 0, slots := 0, locals := 42 }) (rdPc (dC, dI) vwCl (wM cs b g h) (tyl cs) [.ref (b 0)]) (QcRead (nI (m_cnt h (g 10)))) 0 0 (fun _ => False) := by
  refine rd_of (cc := cX4_mayGoAll) (maxL := 3) (ret := (some .int)) (own := RX4) (by decide) rfl rfl (Nat.le_of_ble_eq_true rfl) ?_
  intro p e s m below meth c hx hb hr hml hts hown hlocks hP hK ls hl
  have hl : lv_has ls 3 [(0, .ref (b 0))] := hl
  have hinX4 : ∀ w ∈ wsX40, w ∈ wsX4_mayGoAll := by decide +kernel
  obtain ⟨M1, M2, M3, M4, M5, M6, M7, M8, M9, M10, M11, M12, M13, M14, M15, M16⟩ := id hB
  refine lv_iconst (v := nI 0) hx hb dX4_mayGoAll_0 (by decide) ?_
  refine lv_istore_n (lv' := [(1, .int (nI 0)), (0, .ref (b 0))]) hx hb dX4_mayGoAll_1 rfl hl (by decide) rfl (fun ls hl => ?_)
  refine lv_iconst (v := nI 0) hx hb dX4_mayGoAll_2 (by decide) ?_
  refine lv_istore_n (lv' := [(2, .int (nI 0)), (1, .int (nI 0)), (0, .ref (b 0))]) hx hb dX4_mayGoAll_3 rfl hl (by decide) rfl (fun ls hl => ?_)
  have key : ∀ (k t v : Nat), t + k = g 10 → v = m_cnt h t → ∀ ls : Array Slot, lv_has ls 3 [(2, .int (nI t)), (1, .int (nI v)), (0, .ref (b 0))] → W p l e ({ frames := 2, cells := 0, slots := 0, locals := 42 } : Room) s m ([.ref (b 0)] : List Value).toArray below meth c s.heap [] 0 0 (MQ below (QcRead (nI (m_cnt h (g 10)))) ([.ref (b 0)] : List Value).toArray s 0 0 (fun _ => False)) (F0 m 4 ls []) := by
    intro k
    induction k with
    | zero =>
      intro t v ht hs ls hl
      refine lv_iload_n hx hb dX4_mayGoAll_4 rfl (lv_at hl 0 rfl) ?_
      refine lv_aload_n hx hb dX4_mayGoAll_5 rfl (lv_at hl 2 rfl) ?_
      refine va_get (D := (dC, dI)) (ci := 5) (v := .int (nI (g 10))) (C := RX4) (T := TX4) (N := 29) hx hb hts hinX4 hown hK hP 0 rfl rfl 10 (by decide) (hts (.fieldLink RX4 86 "RenameRowsModel" "rows" "I") (by decide +kernel)) (fun _ h9 => h9) rfl dX4_mayGoAll_6 ?_
      refine lv_icmp_ge (tgt := 34) hx hb dX4_mayGoAll_9 (by decide) (fun c_1 => ?_) (fun c_1 => absurd (nI_le (by omega) (by omega)) c_1)
      have c_1 : (g 10) ≤ t := (nI_leI (by omega) (by omega)).mp c_1
      refine lv_iload_n hx hb dX4_mayGoAll_34 rfl (lv_at hl 1 rfl) ?_
      refine tp_eq (show _ = nI (m_cnt h (g 10)) by rw [hs, show t = g 10 from by omega]) ?_
      exact rd_iret hx hb hr hlocks dX4_mayGoAll_35
    | succ k ih =>
      intro t v ht hs ls hl
      refine lv_iload_n hx hb dX4_mayGoAll_4 rfl (lv_at hl 0 rfl) ?_
      refine lv_aload_n hx hb dX4_mayGoAll_5 rfl (lv_at hl 2 rfl) ?_
      refine va_get (D := (dC, dI)) (ci := 5) (v := .int (nI (g 10))) (C := RX4) (T := TX4) (N := 29) hx hb hts hinX4 hown hK hP 0 rfl rfl 10 (by decide) (hts (.fieldLink RX4 86 "RenameRowsModel" "rows" "I") (by decide +kernel)) (fun _ h9 => h9) rfl dX4_mayGoAll_6 ?_
      refine lv_icmp_ge (tgt := 34) hx hb dX4_mayGoAll_9 (by decide) (fun c_2 => absurd ((nI_leI (by omega) (by omega)).mp c_2) (by omega)) (fun c_2 => ?_)
      have c_2 : ¬ (g 10) ≤ t := fun q => c_2 ((nI_leI (by omega) (by omega)).mpr q)
      obtain ⟨o1, o2⟩ := hok t (by omega)
      refine lv_iload_n hx hb dX4_mayGoAll_12 rfl (lv_at hl 1 rfl) ?_
      refine lv_aload_n hx hb dX4_mayGoAll_13 rfl (lv_at hl 2 rfl) ?_
      refine lv_iload_n hx hb dX4_mayGoAll_14 rfl (lv_at hl 0 rfl) ?_
      refine W.callR (W.runV (As := [.int (nI t)]) (rest := [.int (nI v)]) ⟨hx, hb, hml, hown, hts⟩ (c_X4_mayGo l dC dI cs b g h t hB (by first | omega | assumption) (by first | omega | assumption) (by first | omega | assumption)) (cwV 1 hts gX4_mayGoAll_X4_mayGo rfl rfl rfl (by decide +kernel) ⟨Nat.le_of_ble_eq_true rfl, Nat.le_of_ble_eq_true rfl⟩) (rd_preV (q := (RX4, TX4, 29)) hP hK 0 rfl rfl) rfl rfl hl.1 rfl (lv_room (Nat.le_of_ble_eq_true rfl)) dX4_mayGoAll_15 ⟨Nat.zero_le _, Nat.zero_le _⟩) ?_
      refine W.eq (g2 := F0 m 18 ls (.int (b2i (m_may h t)) :: [.int (nI v)])) rfl ?_
      refine lv_if_eq (tgt := 25) hx hb dX4_mayGoAll_18 (by decide) (fun c_3 => ?_) (fun c_3 => ?_)
      · have c_3 : m_may h t = false := b2i_f c_3
        refine lv_iconst (v := nI 0) hx hb dX4_mayGoAll_25 (by decide) ?_
        refine lv_iadd hx hb dX4_mayGoAll_26 ?_
        refine tp_eq (nI_add v 0) ?_
        refine lv_istore_n (lv' := [(1, .int (nI (v + 0))), (2, .int (nI t)), (0, .ref (b 0))]) hx hb dX4_mayGoAll_27 rfl hl (by decide) rfl (fun ls hl => ?_)
        refine lv_iinc (v := nI (t + 1)) (lv' := [(2, .int (nI (t + 1))), (1, .int (nI (v + 0))), (0, .ref (b 0))]) hx hb dX4_mayGoAll_28 hl (k := 1) rfl (nI_succ t).symm (by decide) rfl (fun ls hl => ?_)
        refine lv_goto (tgt := 4) hx hb dX4_mayGoAll_31 (by decide) ?_
        exact ih (t + 1) (v + 0) (by omega) (by rw [hs]; simp [m_cnt, c_3]) ls (lv_sub hl [0, 1, 2] rfl)
      · have c_3 : m_may h t = true := b2i_t c_3
        refine lv_iconst (v := nI 1) hx hb dX4_mayGoAll_21 (by decide) ?_
        refine lv_goto (tgt := 26) hx hb dX4_mayGoAll_22 (by decide) ?_
        refine lv_iadd hx hb dX4_mayGoAll_26 ?_
        refine tp_eq (nI_add v 1) ?_
        refine lv_istore_n (lv' := [(1, .int (nI (v + 1))), (2, .int (nI t)), (0, .ref (b 0))]) hx hb dX4_mayGoAll_27 rfl hl (by decide) rfl (fun ls hl => ?_)
        refine lv_iinc (v := nI (t + 1)) (lv' := [(2, .int (nI (t + 1))), (1, .int (nI (v + 1))), (0, .ref (b 0))]) hx hb dX4_mayGoAll_28 hl (k := 1) rfl (nI_succ t).symm (by decide) rfl (fun ls hl => ?_)
        refine lv_goto (tgt := 4) hx hb dX4_mayGoAll_31 (by decide) ?_
        exact ih (t + 1) (v + 1) (by omega) (by rw [hs]; simp [m_cnt, c_3]) ls (lv_sub hl [0, 1, 2] rfl)
  exact key (g 10) 0 0 (by omega) rfl ls (lv_sub hl [0, 1, 2] rfl)

set_option maxHeartbeats 4000000 in
set_option maxRecDepth 100000 in
theorem c_X4_bound (l : Launch) (dC : Nat → ClassId) (dI : Nat → Nat → Nat) (cs : ClassId × ClassId) (b g : Nat → Nat) (h : Nat → Nat → Int32) (hB : m_bd g)  : Met l yX4_bound wsX4_bound ({ frames := 0, cells := 0, slots := 0, locals := 0 }) (rdPc (dC, dI) vwCl (wM cs b g h) (tyl cs) [.ref (b 0)]) (QcRead (m_bnd h)) 0 0 (fun _ => False) := by
  refine rd_of (cc := cX4_bound) (maxL := 3) (ret := (some .int)) (own := RX4) (by decide) rfl rfl (Nat.le_of_ble_eq_true rfl) ?_
  intro p e s m below meth c hx hb hr hml hts hown hlocks hP hK ls hl
  have hl : lv_has ls 3 [(0, .ref (b 0))] := hl
  have hinX4 : ∀ w ∈ wsX40, w ∈ wsX4_bound := by decide +kernel
  obtain ⟨M1, M2, M3, M4, M5, M6, M7, M8, M9, M10, M11, M12, M13, M14, M15, M16⟩ := id hB
  refine lv_ldc (v := 2147483647) hx hb hown (hts (.constant RX4 126 2147483647) (by decide +kernel)) dX4_bound_0 ?_
  refine lv_istore_n (lv' := [(1, .int 2147483647), (0, .ref (b 0))]) hx hb dX4_bound_2 rfl hl (by decide) rfl (fun ls hl => ?_)
  refine lv_iconst (v := nI 0) hx hb dX4_bound_3 (by decide) ?_
  refine lv_istore_n (lv' := [(2, .int (nI 0)), (1, .int 2147483647), (0, .ref (b 0))]) hx hb dX4_bound_4 rfl hl (by decide) rfl (fun ls hl => ?_)
  have key : ∀ (k t : Nat) (y : Int32), t + k = 8 → m_bnd h = m_bl h k t y → ∀ ls : Array Slot, lv_has ls 3 [(2, .int (nI t)), (1, .int y), (0, .ref (b 0))] → W p l e ({ frames := 0, cells := 0, slots := 0, locals := 0 } : Room) s m ([.ref (b 0)] : List Value).toArray below meth c s.heap [] 0 0 (MQ below (QcRead (m_bnd h)) ([.ref (b 0)] : List Value).toArray s 0 0 (fun _ => False)) (F0 m 5 ls []) := by
    intro k
    induction k with
    | zero =>
      intro t y ht hs ls hl
      refine lv_iload_n hx hb dX4_bound_5 rfl (lv_at hl 0 rfl) ?_
      refine lv_bipush (v := nI 8) hx hb dX4_bound_6 (by decide) ?_
      refine lv_icmp_ge (tgt := 43) hx hb dX4_bound_8 (by decide) (fun c_1 => ?_) (fun c_1 => absurd (nI_le (by omega) (by omega)) c_1)
      have c_1 : 8 ≤ t := (nI_leI (by omega) (by omega)).mp c_1
      refine lv_iload_n hx hb dX4_bound_43 rfl (lv_at hl 1 rfl) ?_
      refine tp_eq (show _ = m_bnd h by rw [hs]; rfl) ?_
      exact rd_iret hx hb hr hlocks dX4_bound_44
    | succ k ih =>
      intro t y ht hs ls hl
      refine lv_iload_n hx hb dX4_bound_5 rfl (lv_at hl 0 rfl) ?_
      refine lv_bipush (v := nI 8) hx hb dX4_bound_6 (by decide) ?_
      refine lv_icmp_ge (tgt := 43) hx hb dX4_bound_8 (by decide) (fun c_2 => absurd ((nI_leI (by omega) (by omega)).mp c_2) (by omega)) (fun c_2 => ?_)
      have c_2 : ¬ 8 ≤ t := fun q => c_2 ((nI_leI (by omega) (by omega)).mpr q)
      refine lv_aload_n hx hb dX4_bound_11 rfl (lv_at hl 2 rfl) ?_
      refine va_get (D := (dC, dI)) (ci := 5) (v := .ref (b 19)) (C := RX4) (T := TX4) (N := 29) hx hb hts hinX4 hown hK hP 0 rfl rfl 19 (by decide) (hts (.fieldLink RX4 47 "RenameRowsModel" "marked" "[Z") (by decide +kernel)) (fun _ h9 => h9) rfl dX4_bound_12 ?_
      refine lv_iload_n hx hb dX4_bound_15 rfl (lv_at hl 0 rfl) ?_
      refine ar_zld (D := (dC, dI)) (n := 8) (f := h 19) hx hb hK hP 13 1 rfl rfl (by omega) (by omega) dX4_bound_16 ?_
      refine lv_if_eq (tgt := 37) hx hb dX4_bound_17 (by decide) (fun c_3 => ?_) (fun c_3 => ?_)
      · refine lv_iinc (v := nI (t + 1)) (lv' := [(2, .int (nI (t + 1))), (1, .int y), (0, .ref (b 0))]) hx hb dX4_bound_37 hl (k := 0) rfl (nI_succ t).symm (by decide) rfl (fun ls hl => ?_)
        refine lv_goto (tgt := 5) hx hb dX4_bound_40 (by decide) ?_
        exact ih (t + 1) y (by omega) (by rw [hs, m_bl]; simp [c_3]) ls (lv_sub hl [0, 1, 2] rfl)
      · refine lv_aload_n hx hb dX4_bound_20 rfl (lv_at hl 2 rfl) ?_
        refine va_get (D := (dC, dI)) (ci := 5) (v := .ref (b 20)) (C := RX4) (T := TX4) (N := 29) hx hb hts hinX4 hown hK hP 0 rfl rfl 20 (by decide) (hts (.fieldLink RX4 50 "RenameRowsModel" "before" "[I") (by decide +kernel)) (fun _ h9 => h9) rfl dX4_bound_21 ?_
        refine lv_iload_n hx hb dX4_bound_24 rfl (lv_at hl 0 rfl) ?_
        refine ar_ld (D := (dC, dI)) (n := 8) (f := h 20) hx hb hK hP 14 0 rfl rfl (by omega) (by omega) dX4_bound_25 ?_
        refine lv_iload_n hx hb dX4_bound_26 rfl (lv_at hl 1 rfl) ?_
        refine lv_icmp_ge (tgt := 37) hx hb dX4_bound_27 (by decide) (fun c_4 => ?_) (fun c_4 => ?_)
        · refine lv_iinc (v := nI (t + 1)) (lv' := [(2, .int (nI (t + 1))), (1, .int y), (0, .ref (b 0))]) hx hb dX4_bound_37 hl (k := 0) rfl (nI_succ t).symm (by decide) rfl (fun ls hl => ?_)
          refine lv_goto (tgt := 5) hx hb dX4_bound_40 (by decide) ?_
          exact ih (t + 1) y (by omega) (by rw [hs, m_bl]; simp [nl32 c_4, c_3, c_4]) ls (lv_sub hl [0, 1, 2] rfl)
        · refine lv_aload_n hx hb dX4_bound_30 rfl (lv_at hl 2 rfl) ?_
          refine va_get (D := (dC, dI)) (ci := 5) (v := .ref (b 20)) (C := RX4) (T := TX4) (N := 29) hx hb hts hinX4 hown hK hP 0 rfl rfl 20 (by decide) (hts (.fieldLink RX4 50 "RenameRowsModel" "before" "[I") (by decide +kernel)) (fun _ h9 => h9) rfl dX4_bound_31 ?_
          refine lv_iload_n hx hb dX4_bound_34 rfl (lv_at hl 0 rfl) ?_
          refine ar_ld (D := (dC, dI)) (n := 8) (f := h 20) hx hb hK hP 14 0 rfl rfl (by omega) (by omega) dX4_bound_35 ?_
          refine lv_istore_n (lv' := [(1, .int (h 20 t)), (2, .int (nI t)), (0, .ref (b 0))]) hx hb dX4_bound_36 rfl hl (by decide) rfl (fun ls hl => ?_)
          refine lv_iinc (v := nI (t + 1)) (lv' := [(2, .int (nI (t + 1))), (1, .int (h 20 t)), (0, .ref (b 0))]) hx hb dX4_bound_37 hl (k := 1) rfl (nI_succ t).symm (by decide) rfl (fun ls hl => ?_)
          refine lv_goto (tgt := 5) hx hb dX4_bound_40 (by decide) ?_
          exact ih (t + 1) (h 20 t) (by omega) (by rw [hs, m_bl]; simp [i32_ge c_4, c_3, c_4]) ls (lv_sub hl [0, 1, 2] rfl)
  exact key 8 0 2147483647 (by omega) rfl ls (lv_sub hl [0, 1, 2] rfl)
