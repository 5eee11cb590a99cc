def m_ct (g : Nat → Nat) : Nat → Int32
  | 0 => nI (g 1)
  | 1 => nI (g 2)
  | 2 => nI (g 3)
  | 3 => nI (g 10)
  | 4 => nI (g 9)
  | 5 => nI (g 23)
  | 6 => nI (g 25)
  | 7 => nI (g 26)
  | 8 => if g 10 = 0 then -1 else nI (g 11)
  | 9 => nI (g 27)
  | 10 => nI (g 28)
  | _ => -1
def m_lw (h : Nat → Nat → Int32) : Nat → Nat → Int32
  | 0, _ => -1
  | k + 1, j => if h 19 j = 0 then nI j else m_lw h k (j + 1)
def m_lo (h : Nat → Nat → Int32) : Int32 := m_lw h 8 0
def m_loN (g : Nat → Nat) (h : Nat → Nat → Int32) : Nat → Nat := if m_lo h = -1 then un g 0 0 else un (un (un g 0 0) 23 (g 23 + 1)) 22 (g 22 + 1)
def m_loF (g : Nat → Nat) (h : Nat → Nat → Int32) : Nat → Nat → Int32 := if m_lo h = -1 then h else uf (uf (uf h 19 (upd (h 19) (cl32 (m_lo h)) (nI 1))) 20 (upd (h 20) (cl32 (m_lo h)) (nI (g 25 + g 10)))) 21 (upd (h 21) (cl32 (m_lo h)) (nI (g 22)))

set_option maxHeartbeats 4000000 in
set_option maxRecDepth 100000 in
theorem c_X4_row_v (l : Launch) (dC : Nat → ClassId) (dI : Nat → Nat → Nat) (cs : ClassId × ClassId) (b g : Nat → Nat) (h : Nat → Nat → Int32) (sz : Nat) (j : Nat) (wh : Nat) (i : Nat) (hat : m_at g j = nI i) (hB : m_bd g) (h1 : j < g 3) (h2 : i < g 10) (h3 : wh < 7)  : Met l yX4_row wsX4_row ({ frames := 1, cells := 0, slots := 0, locals := 23 }) (wrPc (dC, dI) vwCl (wM cs b g h) (tyl cs) sz [.ref (b 0), .int (nI j), .int (nI wh)]) (wrQ (dC, dI) vwCl (wM cs b (un g 0 0) h) (some (.int (h (12 + wh) i))) (va_A (wM cs b g h) sz)) 0 0 (va_A (wM cs b g h) sz) := by
  refine wr_of (cc := cX4_row) (maxL := 4) (ret := (some .int)) (own := RX4) (by decide) rfl rfl (Nat.le_of_ble_eq_true rfl) ?_
  intro p e s m below meth c A hsz hAe hx hb hr hml hts hown hlocks hP hK hD hA hS ls hl
  have hl : lv_has ls 4 [(0, .ref (b 0)), (1, .int (nI j)), (2, .int (nI wh))] := hl
  have hinX4 : ∀ w ∈ wsX40, w ∈ wsX4_row := by decide +kernel
  obtain ⟨M1, M2, M3, M4, M5, M6, M7, M8, M9, M10, M11, M12, M13, M14, M15, M16⟩ := id hB
  refine lv_aload_n hx hb dX4_row_0 rfl (lv_at hl 0 rfl) ?_
  refine lv_iload_n hx hb dX4_row_1 rfl (lv_at hl 1 rfl) ?_
  refine W.callR (W.runV (As := [.int (nI j)]) (rest := []) ⟨hx, hb, hml, hown, hts⟩ (c_X4_isPlace l dC dI cs b g h (nI j) hB) (cwV 1 hts gX4_row_X4_isPlace rfl rfl rfl (by decide +kernel) ⟨Nat.le_of_ble_eq_true rfl, Nat.le_of_ble_eq_true rfl⟩) (rd_preV (q := (RX4, TX4, 29)) hP hK 0 rfl rfl) rfl rfl hl.1 rfl (lv_room (Nat.le_of_ble_eq_true rfl)) dX4_row_2 ⟨Nat.zero_le _, Nat.zero_le _⟩) ?_
  refine W.eq (g2 := F0 m 5 ls (.int (b2i (inB (nI j) (g 3))) :: [])) rfl ?_
  refine lv_if_eq (tgt := 16) hx hb dX4_row_5 (by decide) (fun c_1 => absurd (b2i_f c_1) (by rw [inB_nI (by omega) (by omega)]; simp; omega)) (fun c_1 => ?_)
  have c_1 : inB (nI j) (g 3) = true := b2i_t c_1
  refine lv_aload_n hx hb dX4_row_8 rfl (lv_at hl 0 rfl) ?_
  refine lv_iload_n hx hb dX4_row_9 rfl (lv_at hl 1 rfl) ?_
  refine W.callR (W.runV (As := [.int (nI j)]) (rest := []) ⟨hx, hb, hml, hown, hts⟩ (c_X4_at l dC dI cs b g h j hB (by first | omega | assumption)) (cwV 1 hts gX4_row_X4_at rfl rfl rfl (by decide +kernel) ⟨Nat.le_of_ble_eq_true rfl, Nat.le_of_ble_eq_true rfl⟩) (rd_preV (q := (RX4, TX4, 29)) hP hK 0 rfl rfl) rfl rfl hl.1 rfl (lv_room (Nat.le_of_ble_eq_true rfl)) dX4_row_10 ⟨Nat.zero_le _, Nat.zero_le _⟩) ?_
  refine W.eq (g2 := F0 m 13 ls (.int (m_at g j) :: [])) rfl ?_
  refine tp_eq hat ?_
  refine lv_goto (tgt := 17) hx hb dX4_row_13 (by decide) ?_
  refine lv_istore_n (lv' := [(3, .int (nI i)), (0, .ref (b 0)), (1, .int (nI j)), (2, .int (nI wh))]) hx hb dX4_row_17 rfl hl (by decide) rfl (fun ls hl => ?_)
  refine lv_aload_n hx hb dX4_row_18 rfl (lv_at hl 1 rfl) ?_
  refine lv_aload_n hx hb dX4_row_19 rfl (lv_at hl 1 rfl) ?_
  refine lv_iload_n hx hb dX4_row_20 rfl (lv_at hl 2 rfl) ?_
  refine W.callR (W.runV (As := [.int (nI j)]) (rest := [.ref (b 0)]) ⟨hx, hb, hml, hown, hts⟩ (c_X4_isPlace l dC dI cs b g h (nI j) hB) (cwV 1 hts gX4_row_X4_isPlace rfl rfl rfl (by decide +kernel) ⟨Nat.le_of_ble_eq_true rfl, Nat.le_of_ble_eq_true rfl⟩) (rd_preV (q := (RX4, TX4, 29)) hP hK 0 rfl rfl) rfl rfl hl.1 rfl (lv_room (Nat.le_of_ble_eq_true rfl)) dX4_row_21 ⟨Nat.zero_le _, Nat.zero_le _⟩) ?_
  refine W.eq (g2 := F0 m 24 ls (.int (b2i (inB (nI j) (g 3))) :: [.ref (b 0)])) rfl ?_
  refine lv_if_ne (tgt := 31) hx hb dX4_row_24 (by decide) (fun c_2 => ?_) (fun c_2 => absurd (b2i_f c_2) (by rw [inB_nI (by omega) (by omega)]; simp; omega))
  have c_2 : inB (nI j) (g 3) = true := b2i_t c_2
  refine lv_iconst (v := nI 0) hx hb dX4_row_31 (by decide) ?_
  refine lv_iload_n hx hb dX4_row_32 rfl (lv_at hl 0 rfl) ?_
  refine lv_if_ge (tgt := 40) hx hb dX4_row_33 (by decide) (fun _ => ?_) (fun c => absurd (nI_pos' (by omega)) c)
  refine lv_iconst (v := nI 0) hx hb dX4_row_40 (by decide) ?_
  refine lv_iload_n hx hb dX4_row_41 rfl (lv_at hl 3 rfl) ?_
  refine lv_if_lt (tgt := 51) hx hb dX4_row_42 (by decide) (fun c => absurd c (nI_pos (by omega))) (fun _ => ?_)
  refine lv_iload_n hx hb dX4_row_45 rfl (lv_at hl 3 rfl) ?_
  refine lv_bipush (v := nI 6) hx hb dX4_row_46 (by decide) ?_
  refine lv_icmp_le (tgt := 55) hx hb dX4_row_48 (by decide) (fun c_5 => ?_) (fun c_5 => absurd (nI_le (by omega) (by omega)) c_5)
  have c_5 : wh ≤ 6 := (nI_leI (by omega) (by omega)).mp c_5
  refine lv_iconst (v := nI 0) hx hb dX4_row_55 (by decide) ?_
  refine wr_calli (va_runV (As := [.int (nI 0), .int (nI 0), .int (nI 0)]) (rest := []) ⟨hx, hb, hml, hown, hts⟩ (c_X4_throwing l dC dI cs b g h s.heap.size 0 0 0 hB (by decide) (by decide) (by decide)) (cwV 3 hts gX4_row_X4_throwing rfl rfl rfl (by decide +kernel) ⟨Nat.le_of_ble_eq_true rfl, Nat.le_of_ble_eq_true rfl⟩) (wr_preV (q := (RX4, TX4, 29)) hP hK hD 0 rfl rfl) rfl rfl hl.1 rfl (lv_room (Nat.le_of_ble_eq_true rfl)) dX4_row_56 ⟨Nat.zero_le _, Nat.zero_le _⟩) hS hD hA rfl (fun H locs hP hD hS => ?_)
  have hP : va_P (dC, dI) vwCl (wM cs b (un g 0 0) h) H := hP
  have hD : va_D A (wM cs b (un g 0 0) h) := hD
  refine W.eq (g2 := F0 m 59 ls (.int (nI 0) :: [])) rfl ?_
  have hB : m_bd (un g 0 0) := by (unfold m_bd un; simp; omega)
  refine lv_if_eq (tgt := 64) hx hb dX4_row_59 (by decide) (fun _ => ?_) (fun c => absurd (by decide) c)
  refine lv_iload_n hx hb dX4_row_64 rfl (lv_at hl 3 rfl) ?_
  rcases (show wh = 0 ∨ wh = 1 ∨ wh = 2 ∨ wh = 3 ∨ wh = 4 ∨ wh = 5 ∨ wh = 6 by omega) with rfl | rfl | rfl | rfl | rfl | rfl | rfl
  · refine lv_tableIn (tgt := 104) (off := 39) hx hb dX4_row_65 (by decide) (by decide) (by decide) (by decide) ?_
    refine lv_aload_n hx hb dX4_row_104 rfl (lv_at hl 1 rfl) ?_
    refine va_get (D := (dC, dI)) (ci := 5) (v := .ref (b 12)) (C := RX4) (T := TX4) (N := 29) hx hb hts hinX4 hown hK hP 0 rfl rfl 12 (by decide) (hts (.fieldLink RX4 26 "RenameRowsModel" "first" "[I") (by decide +kernel)) (fun _ h9 => h9) rfl dX4_row_105 ?_
    refine lv_iload_n hx hb dX4_row_108 rfl (lv_at hl 0 rfl) ?_
    refine ar_ld (D := (dC, dI)) (n := 64) (f := h 12) hx hb hK hP 6 0 rfl rfl (by omega) (by omega) dX4_row_109 ?_
    refine tp_eq (show _ = (h (12 + 0) i) by rfl) ?_
    exact wr_iret hx hb hr hlocks hP hS dX4_row_110
  · refine lv_tableIn (tgt := 111) (off := 46) hx hb dX4_row_65 (by decide) (by decide) (by decide) (by decide) ?_
    refine lv_aload_n hx hb dX4_row_111 rfl (lv_at hl 1 rfl) ?_
    refine va_get (D := (dC, dI)) (ci := 5) (v := .ref (b 13)) (C := RX4) (T := TX4) (N := 29) hx hb hts hinX4 hown hK hP 0 rfl rfl 13 (by decide) (hts (.fieldLink RX4 29 "RenameRowsModel" "second" "[I") (by decide +kernel)) (fun _ h9 => h9) rfl dX4_row_112 ?_
    refine lv_iload_n hx hb dX4_row_115 rfl (lv_at hl 0 rfl) ?_
    refine ar_ld (D := (dC, dI)) (n := 64) (f := h 13) hx hb hK hP 7 0 rfl rfl (by omega) (by omega) dX4_row_116 ?_
    refine tp_eq (show _ = (h (12 + 1) i) by rfl) ?_
    exact wr_iret hx hb hr hlocks hP hS dX4_row_117
  · refine lv_tableIn (tgt := 118) (off := 53) hx hb dX4_row_65 (by decide) (by decide) (by decide) (by decide) ?_
    refine lv_aload_n hx hb dX4_row_118 rfl (lv_at hl 1 rfl) ?_
    refine va_get (D := (dC, dI)) (ci := 5) (v := .ref (b 14)) (C := RX4) (T := TX4) (N := 29) hx hb hts hinX4 hown hK hP 0 rfl rfl 14 (by decide) (hts (.fieldLink RX4 32 "RenameRowsModel" "gave" "[I") (by decide +kernel)) (fun _ h9 => h9) rfl dX4_row_119 ?_
    refine lv_iload_n hx hb dX4_row_122 rfl (lv_at hl 0 rfl) ?_
    refine ar_ld (D := (dC, dI)) (n := 64) (f := h 14) hx hb hK hP 8 0 rfl rfl (by omega) (by omega) dX4_row_123 ?_
    refine tp_eq (show _ = (h (12 + 2) i) by rfl) ?_
    exact wr_iret hx hb hr hlocks hP hS dX4_row_124
  · refine lv_tableIn (tgt := 125) (off := 60) hx hb dX4_row_65 (by decide) (by decide) (by decide) (by decide) ?_
    refine lv_aload_n hx hb dX4_row_125 rfl (lv_at hl 1 rfl) ?_
    refine va_get (D := (dC, dI)) (ci := 5) (v := .ref (b 15)) (C := RX4) (T := TX4) (N := 29) hx hb hts hinX4 hown hK hP 0 rfl rfl 15 (by decide) (hts (.fieldLink RX4 35 "RenameRowsModel" "knew" "[I") (by decide +kernel)) (fun _ h9 => h9) rfl dX4_row_126 ?_
    refine lv_iload_n hx hb dX4_row_129 rfl (lv_at hl 0 rfl) ?_
    refine ar_ld (D := (dC, dI)) (n := 64) (f := h 15) hx hb hK hP 9 0 rfl rfl (by omega) (by omega) dX4_row_130 ?_
    refine tp_eq (show _ = (h (12 + 3) i) by rfl) ?_
    exact wr_iret hx hb hr hlocks hP hS dX4_row_131
  · refine lv_tableIn (tgt := 132) (off := 67) hx hb dX4_row_65 (by decide) (by decide) (by decide) (by decide) ?_
    refine lv_aload_n hx hb dX4_row_132 rfl (lv_at hl 1 rfl) ?_
    refine va_get (D := (dC, dI)) (ci := 5) (v := .ref (b 16)) (C := RX4) (T := TX4) (N := 29) hx hb hts hinX4 hown hK hP 0 rfl rfl 16 (by decide) (hts (.fieldLink RX4 38 "RenameRowsModel" "register" "[I") (by decide +kernel)) (fun _ h9 => h9) rfl dX4_row_133 ?_
    refine lv_iload_n hx hb dX4_row_136 rfl (lv_at hl 0 rfl) ?_
    refine ar_ld (D := (dC, dI)) (n := 64) (f := h 16) hx hb hK hP 10 0 rfl rfl (by omega) (by omega) dX4_row_137 ?_
    refine tp_eq (show _ = (h (12 + 4) i) by rfl) ?_
    exact wr_iret hx hb hr hlocks hP hS dX4_row_138
  · refine lv_tableIn (tgt := 139) (off := 74) hx hb dX4_row_65 (by decide) (by decide) (by decide) (by decide) ?_
    refine lv_aload_n hx hb dX4_row_139 rfl (lv_at hl 1 rfl) ?_
    refine va_get (D := (dC, dI)) (ci := 5) (v := .ref (b 17)) (C := RX4) (T := TX4) (N := 29) hx hb hts hinX4 hown hK hP 0 rfl rfl 17 (by decide) (hts (.fieldLink RX4 41 "RenameRowsModel" "ports" "[I") (by decide +kernel)) (fun _ h9 => h9) rfl dX4_row_140 ?_
    refine lv_iload_n hx hb dX4_row_143 rfl (lv_at hl 0 rfl) ?_
    refine ar_ld (D := (dC, dI)) (n := 64) (f := h 17) hx hb hK hP 11 0 rfl rfl (by omega) (by omega) dX4_row_144 ?_
    refine tp_eq (show _ = (h (12 + 5) i) by rfl) ?_
    exact wr_iret hx hb hr hlocks hP hS dX4_row_145
  · refine lv_tableOut (tgt := 146) hx hb dX4_row_65 (by decide) (by decide) ?_
    refine lv_aload_n hx hb dX4_row_146 rfl (lv_at hl 1 rfl) ?_
    refine va_get (D := (dC, dI)) (ci := 5) (v := .ref (b 18)) (C := RX4) (T := TX4) (N := 29) hx hb hts hinX4 hown hK hP 0 rfl rfl 18 (by decide) (hts (.fieldLink RX4 44 "RenameRowsModel" "state" "[I") (by decide +kernel)) (fun _ h9 => h9) rfl dX4_row_147 ?_
    refine lv_iload_n hx hb dX4_row_150 rfl (lv_at hl 0 rfl) ?_
    refine ar_ld (D := (dC, dI)) (n := 64) (f := h 18) hx hb hK hP 12 0 rfl rfl (by omega) (by omega) dX4_row_151 ?_
    refine tp_eq (show _ = (h (12 + 6) i) by rfl) ?_
    exact wr_iret hx hb hr hlocks hP hS dX4_row_152

set_option maxHeartbeats 4000000 in
set_option maxRecDepth 100000 in
theorem c_X4_count_v (l : Launch) (dC : Nat → ClassId) (dI : Nat → Nat → Nat) (cs : ClassId × ClassId) (b g : Nat → Nat) (h : Nat → Nat → Int32) (sz : Nat) (kc : Nat) (hB : m_bd g) (h1 : kc < 11)  : Met l yX4_count wsX4_count ({ frames := 0, cells := 0, slots := 0, locals := 0 }) (wrPc (dC, dI) vwCl (wM cs b g h) (tyl cs) sz [.ref (b 0), .int (nI kc)]) (wrQ (dC, dI) vwCl (wM cs b (un g 0 0) h) (some (.int (m_ct g kc))) (va_A (wM cs b g h) sz)) 0 0 (va_A (wM cs b g h) sz) := by
  refine wr_of (cc := cX4_count) (maxL := 2) (ret := (some .int)) (own := RX4) (by decide) rfl rfl (Nat.le_of_ble_eq_true rfl) ?_
  intro p e s m below meth c A hsz hAe hx hb hr hml hts hown hlocks hP hK hD hA hS ls hl
  have hl : lv_has ls 2 [(0, .ref (b 0)), (1, .int (nI kc))] := hl
  have hinX4 : ∀ w ∈ wsX40, w ∈ wsX4_count := by decide +kernel
  obtain ⟨M1, M2, M3, M4, M5, M6, M7, M8, M9, M10, M11, M12, M13, M14, M15, M16⟩ := id hB
  refine lv_aload_n hx hb dX4_count_0 rfl (lv_at hl 0 rfl) ?_
  refine lv_iconst (v := nI 0) hx hb dX4_count_1 (by decide) ?_
  refine va_put (D := (dC, dI)) (ci := 5) (v := .int (nI 0)) (ty := .int) (C := RX4) (T := TX4) (N := 29) hx hb hts hinX4 tyX4 tyX4_ok nmX4 hown hK hP hD hS 0 rfl rfl 0 (by decide) (hts (.fieldLink RX4 76 "RenameRowsModel" "thrown" "I") (by decide +kernel)) (fun _ h9 => h9) rfl (by decide +kernel) rfl rfl (Nat.le_of_ble_eq_true rfl) dX4_count_2 (fun H locs hP hD hS => ?_)
  have hP : va_P (dC, dI) vwCl (wM cs b (un g 0 0) h) H := hP
  have hD : va_D A (wM cs b (un g 0 0) h) := hD
  refine lv_iload_n hx hb dX4_count_5 rfl (lv_at hl 1 rfl) ?_
  rcases (show kc = 0 ∨ kc = 1 ∨ kc = 2 ∨ kc = 3 ∨ kc = 4 ∨ kc = 5 ∨ kc = 6 ∨ kc = 7 ∨ kc = 8 ∨ kc = 9 ∨ kc = 10 by omega) with rfl | rfl | rfl | rfl | rfl | rfl | rfl | rfl | rfl | rfl | rfl
  · refine lv_tableIn (tgt := 64) (off := 58) hx hb dX4_count_6 (by decide) (by decide) (by decide) (by decide) ?_
    refine lv_aload_n hx hb dX4_count_64 rfl (lv_at hl 0 rfl) ?_
    refine va_get (D := (dC, dI)) (ci := 5) (v := .int (nI (g 1))) (C := RX4) (T := TX4) (N := 29) hx hb hts hinX4 hown hK hP 0 rfl rfl 1 (by decide) (hts (.fieldLink RX4 63 "RenameRowsModel" "registers" "I") (by decide +kernel)) (fun _ h9 => h9) rfl dX4_count_65 ?_
    refine tp_eq (show _ = (m_ct g 0) by first | rfl | (simp [m_ct]; done)) ?_
    exact wr_iret hx hb hr hlocks hP hS dX4_count_68
  · refine lv_tableIn (tgt := 69) (off := 63) hx hb dX4_count_6 (by decide) (by decide) (by decide) (by decide) ?_
    refine lv_aload_n hx hb dX4_count_69 rfl (lv_at hl 0 rfl) ?_
    refine va_get (D := (dC, dI)) (ci := 5) (v := .int (nI (g 2))) (C := RX4) (T := TX4) (N := 29) hx hb hts hinX4 hown hK hP 0 rfl rfl 2 (by decide) (hts (.fieldLink RX4 67 "RenameRowsModel" "names" "I") (by decide +kernel)) (fun _ h9 => h9) rfl dX4_count_70 ?_
    refine tp_eq (show _ = (m_ct g 1) by first | rfl | (simp [m_ct]; done)) ?_
    exact wr_iret hx hb hr hlocks hP hS dX4_count_73
  · refine lv_tableIn (tgt := 74) (off := 68) hx hb dX4_count_6 (by decide) (by decide) (by decide) (by decide) ?_
    refine lv_aload_n hx hb dX4_count_74 rfl (lv_at hl 0 rfl) ?_
    refine va_get (D := (dC, dI)) (ci := 5) (v := .int (nI (g 3))) (C := RX4) (T := TX4) (N := 29) hx hb hts hinX4 hown hK hP 0 rfl rfl 3 (by decide) (hts (.fieldLink RX4 70 "RenameRowsModel" "places" "I") (by decide +kernel)) (fun _ h9 => h9) rfl dX4_count_75 ?_
    refine tp_eq (show _ = (m_ct g 2) by first | rfl | (simp [m_ct]; done)) ?_
    exact wr_iret hx hb hr hlocks hP hS dX4_count_78
  · refine lv_tableIn (tgt := 79) (off := 73) hx hb dX4_count_6 (by decide) (by decide) (by decide) (by decide) ?_
    refine lv_aload_n hx hb dX4_count_79 rfl (lv_at hl 0 rfl) ?_
    refine va_get (D := (dC, dI)) (ci := 5) (v := .int (nI (g 10))) (C := RX4) (T := TX4) (N := 29) hx hb hts hinX4 hown hK hP 0 rfl rfl 10 (by decide) (hts (.fieldLink RX4 86 "RenameRowsModel" "rows" "I") (by decide +kernel)) (fun _ h9 => h9) rfl dX4_count_80 ?_
    refine tp_eq (show _ = (m_ct g 3) by first | rfl | (simp [m_ct]; done)) ?_
    exact wr_iret hx hb hr hlocks hP hS dX4_count_83
  · refine lv_tableIn (tgt := 84) (off := 78) hx hb dX4_count_6 (by decide) (by decide) (by decide) (by decide) ?_
    refine lv_aload_n hx hb dX4_count_84 rfl (lv_at hl 0 rfl) ?_
    refine va_get (D := (dC, dI)) (ci := 5) (v := .int (nI (g 9))) (C := RX4) (T := TX4) (N := 29) hx hb hts hinX4 hown hK hP 0 rfl rfl 9 (by decide) (hts (.fieldLink RX4 73 "RenameRowsModel" "free" "I") (by decide +kernel)) (fun _ h9 => h9) rfl dX4_count_85 ?_
    refine tp_eq (show _ = (m_ct g 4) by first | rfl | (simp [m_ct]; done)) ?_
    exact wr_iret hx hb hr hlocks hP hS dX4_count_88
  · refine lv_tableIn (tgt := 89) (off := 83) hx hb dX4_count_6 (by decide) (by decide) (by decide) (by decide) ?_
    refine lv_aload_n hx hb dX4_count_89 rfl (lv_at hl 0 rfl) ?_
    refine va_get (D := (dC, dI)) (ci := 5) (v := .int (nI (g 23))) (C := RX4) (T := TX4) (N := 29) hx hb hts hinX4 hown hK hP 0 rfl rfl 23 (by decide) (hts (.fieldLink RX4 140 "RenameRowsModel" "marks" "I") (by decide +kernel)) (fun _ h9 => h9) rfl dX4_count_90 ?_
    refine tp_eq (show _ = (m_ct g 5) by first | rfl | (simp [m_ct]; done)) ?_
    exact wr_iret hx hb hr hlocks hP hS dX4_count_93
  · refine lv_tableIn (tgt := 94) (off := 88) hx hb dX4_count_6 (by decide) (by decide) (by decide) (by decide) ?_
    refine lv_aload_n hx hb dX4_count_94 rfl (lv_at hl 0 rfl) ?_
    refine va_get (D := (dC, dI)) (ci := 5) (v := .int (nI (g 25))) (C := RX4) (T := TX4) (N := 29) hx hb hts hinX4 hown hK hP 0 rfl rfl 25 (by decide) (hts (.fieldLink RX4 127 "RenameRowsModel" "done" "I") (by decide +kernel)) (fun _ h9 => h9) rfl dX4_count_95 ?_
    refine tp_eq (show _ = (m_ct g 6) by first | rfl | (simp [m_ct]; done)) ?_
    exact wr_iret hx hb hr hlocks hP hS dX4_count_98
  · refine lv_tableIn (tgt := 99) (off := 93) hx hb dX4_count_6 (by decide) (by decide) (by decide) (by decide) ?_
    refine lv_aload_n hx hb dX4_count_99 rfl (lv_at hl 0 rfl) ?_
    refine va_get (D := (dC, dI)) (ci := 5) (v := .int (nI (g 26))) (C := RX4) (T := TX4) (N := 29) hx hb hts hinX4 hown hK hP 0 rfl rfl 26 (by decide) (hts (.fieldLink RX4 152 "RenameRowsModel" "back" "I") (by decide +kernel)) (fun _ h9 => h9) rfl dX4_count_100 ?_
    refine tp_eq (show _ = (m_ct g 7) by first | rfl | (simp [m_ct]; done)) ?_
    exact wr_iret hx hb hr hlocks hP hS dX4_count_103
  · refine lv_tableIn (tgt := 104) (off := 98) hx hb dX4_count_6 (by decide) (by decide) (by decide) (by decide) ?_
    refine lv_aload_n hx hb dX4_count_104 rfl (lv_at hl 0 rfl) ?_
    refine va_get (D := (dC, dI)) (ci := 5) (v := .int (nI (g 10))) (C := RX4) (T := TX4) (N := 29) hx hb hts hinX4 hown hK hP 0 rfl rfl 10 (by decide) (hts (.fieldLink RX4 86 "RenameRowsModel" "rows" "I") (by decide +kernel)) (fun _ h9 => h9) rfl dX4_count_105 ?_
    refine lv_if_ne (tgt := 115) hx hb dX4_count_108 (by decide) (fun c_1 => ?_) (fun c_1 => ?_)
    · have c_1 : ¬ (g 10) = 0 := fun q => c_1 ((nI_z (by omega)).mpr q)
      refine lv_aload_n hx hb dX4_count_115 rfl (lv_at hl 0 rfl) ?_
      refine va_get (D := (dC, dI)) (ci := 5) (v := .int (nI (g 11))) (C := RX4) (T := TX4) (N := 29) hx hb hts hinX4 hown hK hP 0 rfl rfl 11 (by decide) (hts (.fieldLink RX4 83 "RenameRowsModel" "head" "I") (by decide +kernel)) (fun _ h9 => h9) rfl dX4_count_116 ?_
      refine tp_eq (show _ = (m_ct g 8) by first | rfl | (simp [m_ct, c_1]; done)) ?_
      exact wr_iret hx hb hr hlocks hP hS dX4_count_119
    · have c_1 : (g 10) = 0 := (nI_z (by omega)).mp c_1
      refine lv_iconst (v := (-1)) hx hb dX4_count_111 (by decide) ?_
      refine lv_goto (tgt := 119) hx hb dX4_count_112 (by decide) ?_
      refine tp_eq (show _ = (m_ct g 8) by first | rfl | (simp [m_ct, c_1]; done)) ?_
      exact wr_iret hx hb hr hlocks hP hS dX4_count_119
  · refine lv_tableIn (tgt := 120) (off := 114) hx hb dX4_count_6 (by decide) (by decide) (by decide) (by decide) ?_
    refine lv_aload_n hx hb dX4_count_120 rfl (lv_at hl 0 rfl) ?_
    refine va_get (D := (dC, dI)) (ci := 5) (v := .int (nI (g 27))) (C := RX4) (T := TX4) (N := 29) hx hb hts hinX4 hown hK hP 0 rfl rfl 27 (by decide) (hts (.fieldLink RX4 100 "RenameRowsModel" "noPlace" "I") (by decide +kernel)) (fun _ h9 => h9) rfl dX4_count_121 ?_
    refine tp_eq (show _ = (m_ct g 9) by first | rfl | (simp [m_ct]; done)) ?_
    exact wr_iret hx hb hr hlocks hP hS dX4_count_124
  · refine lv_tableIn (tgt := 125) (off := 119) hx hb dX4_count_6 (by decide) (by decide) (by decide) (by decide) ?_
    refine lv_aload_n hx hb dX4_count_125 rfl (lv_at hl 0 rfl) ?_
    refine va_get (D := (dC, dI)) (ci := 5) (v := .int (nI (g 28))) (C := RX4) (T := TX4) (N := 29) hx hb hts hinX4 hown hK hP 0 rfl rfl 28 (by decide) (hts (.fieldLink RX4 103 "RenameRowsModel" "noName" "I") (by decide +kernel)) (fun _ h9 => h9) rfl dX4_count_126 ?_
    refine tp_eq (show _ = (m_ct g 10) by first | rfl | (simp [m_ct]; done)) ?_
    exact wr_iret hx hb hr hlocks hP hS dX4_count_129

set_option maxHeartbeats 4000000 in
set_option maxRecDepth 100000 in
theorem c_X4_count_x (l : Launch) (dC : Nat → ClassId) (dI : Nat → Nat → Nat) (cs : ClassId × ClassId) (b g : Nat → Nat) (h : Nat → Nat → Int32) (sz : Nat) (y : Int32) (hy : y.toInt < 0 ∨ 10 < y.toInt) (hB : m_bd g)  : Met l yX4_count wsX4_count ({ frames := 0, cells := 0, slots := 0, locals := 0 }) (wrPc (dC, dI) vwCl (wM cs b g h) (tyl cs) sz [.ref (b 0), .int y]) (wrQ (dC, dI) vwCl (wM cs b (un g 0 0) h) (some (.int (-1))) (va_A (wM cs b g h) sz)) 0 0 (va_A (wM cs b g h) sz) := by
  refine wr_of (cc := cX4_count) (maxL := 2) (ret := (some .int)) (own := RX4) (by decide) rfl rfl (Nat.le_of_ble_eq_true rfl) ?_
  intro p e s m below meth c A hsz hAe hx hb hr hml hts hown hlocks hP hK hD hA hS ls hl
  have hl : lv_has ls 2 [(0, .ref (b 0)), (1, .int y)] := hl
  have hinX4 : ∀ w ∈ wsX40, w ∈ wsX4_count := by decide +kernel
  obtain ⟨M1, M2, M3, M4, M5, M6, M7, M8, M9, M10, M11, M12, M13, M14, M15, M16⟩ := id hB
  refine lv_aload_n hx hb dX4_count_0 rfl (lv_at hl 0 rfl) ?_
  refine lv_iconst (v := nI 0) hx hb dX4_count_1 (by decide) ?_
  refine va_put (D := (dC, dI)) (ci := 5) (v := .int (nI 0)) (ty := .int) (C := RX4) (T := TX4) (N := 29) hx hb hts hinX4 tyX4 tyX4_ok nmX4 hown hK hP hD hS 0 rfl rfl 0 (by decide) (hts (.fieldLink RX4 76 "RenameRowsModel" "thrown" "I") (by decide +kernel)) (fun _ h9 => h9) rfl (by decide +kernel) rfl rfl (Nat.le_of_ble_eq_true rfl) dX4_count_2 (fun H locs hP hD hS => ?_)
  have hP : va_P (dC, dI) vwCl (wM cs b (un g 0 0) h) H := hP
  have hD : va_D A (wM cs b (un g 0 0) h) := hD
  refine lv_iload_n hx hb dX4_count_5 rfl (lv_at hl 1 rfl) ?_
  refine lv_tableOut (tgt := 130) hx hb dX4_count_6 hy (by decide) ?_
  refine lv_iconst (v := (-1)) hx hb dX4_count_130 (by decide) ?_
  exact wr_iret hx hb hr hlocks hP hS dX4_count_131

set_option maxHeartbeats 4000000 in
set_option maxRecDepth 100000 in
theorem c_X4_right_x1 (l : Launch) (dC : Nat → ClassId) (dI : Nat → Nat → Nat) (cs : ClassId × ClassId) (b g : Nat → Nat) (h : Nat → Nat → Int32) (sz : Nat) (y : Int32) (hbad : inB y 8 = false) (hB : m_bd g)  : Met l yX4_right wsX4_right ({ frames := 1, cells := 0, slots := 0, locals := 23 }) (wrPc (dC, dI) vwCl (wM cs b g h) (tyl cs) sz [.ref (b 0), .int y]) (wrQ (dC, dI) vwCl (wM cs b (un g 0 1) h) (some (.int (nI 0))) (va_A (wM cs b g h) sz)) 0 0 (va_A (wM cs b g h) sz) := by
  refine wr_of (cc := cX4_right) (maxL := 2) (ret := (some .int)) (own := RX4) (by decide) rfl rfl (Nat.le_of_ble_eq_true rfl) ?_
  intro p e s m below meth c A hsz hAe hx hb hr hml hts hown hlocks hP hK hD hA hS ls hl
  have hl : lv_has ls 2 [(0, .ref (b 0)), (1, .int y)] := hl
  have hinX4 : ∀ w ∈ wsX40, w ∈ wsX4_right := by decide +kernel
  obtain ⟨M1, M2, M3, M4, M5, M6, M7, M8, M9, M10, M11, M12, M13, M14, M15, M16⟩ := id hB
  refine lv_aload_n hx hb dX4_right_0 rfl (lv_at hl 0 rfl) ?_
  refine lv_aload_n hx hb dX4_right_1 rfl (lv_at hl 0 rfl) ?_
  refine lv_iload_n hx hb dX4_right_2 rfl (lv_at hl 1 rfl) ?_
  refine W.callR (W.runV (As := [.int y]) (rest := [.ref (b 0)]) ⟨hx, hb, hml, hown, hts⟩ (c_X4_isMark l dC dI cs b g h y hB) (cwV 1 hts gX4_right_X4_isMark rfl rfl rfl (by decide +kernel) ⟨Nat.le_of_ble_eq_true rfl, Nat.le_of_ble_eq_true rfl⟩) (rd_preV (q := (RX4, TX4, 29)) hP hK 0 rfl rfl) rfl rfl hl.1 rfl (lv_room (Nat.le_of_ble_eq_true rfl)) dX4_right_3 ⟨Nat.zero_le _, Nat.zero_le _⟩) ?_
  refine W.eq (g2 := F0 m 6 ls (.int (b2i (inB y 8)) :: [.ref (b 0)])) rfl ?_
  refine lv_if_ne (tgt := 13) hx hb dX4_right_6 (by decide) (fun c_1 => absurd (b2i_t c_1) (by rw [hbad]; decide)) (fun c_1 => ?_)
  have c_1 : inB y 8 = false := b2i_f c_1
  refine lv_iconst (v := nI 1) hx hb dX4_right_9 (by decide) ?_
  refine lv_goto (tgt := 14) hx hb dX4_right_10 (by decide) ?_
  refine lv_aload_n hx hb dX4_right_14 rfl (lv_at hl 0 rfl) ?_
  refine va_get (D := (dC, dI)) (ci := 5) (v := .ref (b 19)) (C := RX4) (T := TX4) (N := 29) hx hb hts hinX4 hown hK hP 0 rfl rfl 19 (by decide) (hts (.fieldLink RX4 47 "RenameRowsModel" "marked" "[Z") (by decide +kernel)) (fun _ h9 => h9) rfl dX4_right_15 ?_
  refine lv_aload_n hx hb dX4_right_18 rfl (lv_at hl 0 rfl) ?_
  refine lv_iload_n hx hb dX4_right_19 rfl (lv_at hl 1 rfl) ?_
  refine W.callR (W.runV (As := [.int y]) (rest := [.ref (b 19), .int (nI 1), .ref (b 0)]) ⟨hx, hb, hml, hown, hts⟩ (c_X4_isMark l dC dI cs b g h y hB) (cwV 1 hts gX4_right_X4_isMark rfl rfl rfl (by decide +kernel) ⟨Nat.le_of_ble_eq_true rfl, Nat.le_of_ble_eq_true rfl⟩) (rd_preV (q := (RX4, TX4, 29)) hP hK 0 rfl rfl) rfl rfl hl.1 rfl (lv_room (Nat.le_of_ble_eq_true rfl)) dX4_right_20 ⟨Nat.zero_le _, Nat.zero_le _⟩) ?_
  refine W.eq (g2 := F0 m 23 ls (.int (b2i (inB y 8)) :: [.ref (b 19), .int (nI 1), .ref (b 0)])) rfl ?_
  refine lv_if_eq (tgt := 30) hx hb dX4_right_23 (by decide) (fun c_2 => ?_) (fun c_2 => absurd (b2i_t c_2) (by rw [hbad]; decide))
  have c_2 : inB y 8 = false := b2i_f c_2
  refine lv_iconst (v := nI 0) hx hb dX4_right_30 (by decide) ?_
  refine ar_zld (D := (dC, dI)) (n := 8) (f := h 19) hx hb hK hP 13 1 rfl rfl (by omega) (by omega) dX4_right_31 ?_
  refine lv_if_ne (tgt := 39) hx hb dX4_right_32 (by decide) (fun c_3 => ?_) (fun c_3 => ?_)
  · refine lv_iconst (v := nI 0) hx hb dX4_right_39 (by decide) ?_
    refine lv_iconst (v := nI 0) hx hb dX4_right_40 (by decide) ?_
    refine wr_calli (va_runV (As := [.int (nI 1), .int (nI 0), .int (nI 0)]) (rest := []) ⟨hx, hb, hml, hown, hts⟩ (c_X4_throwing l dC dI cs b g h s.heap.size 1 0 0 hB (by decide) (by decide) (by decide)) (cwV 3 hts gX4_right_X4_throwing rfl rfl rfl (by decide +kernel) ⟨Nat.le_of_ble_eq_true rfl, Nat.le_of_ble_eq_true rfl⟩) (wr_preV (q := (RX4, TX4, 29)) hP hK hD 0 rfl rfl) rfl rfl hl.1 rfl (lv_room (Nat.le_of_ble_eq_true rfl)) dX4_right_41 ⟨Nat.zero_le _, Nat.zero_le _⟩) hS hD hA rfl (fun H locs hP hD hS => ?_)
    have hP : va_P (dC, dI) vwCl (wM cs b (un g 0 1) h) H := hP
    have hD : va_D A (wM cs b (un g 0 1) h) := hD
    refine W.eq (g2 := F0 m 44 ls (.int (nI 1) :: [])) rfl ?_
    have hB : m_bd (un g 0 1) := by (unfold m_bd un; simp; omega)
    refine lv_if_eq (tgt := 49) hx hb dX4_right_44 (by decide) (fun c => absurd c (by decide)) (fun _ => ?_)
    refine lv_iconst (v := nI 0) hx hb dX4_right_47 (by decide) ?_
    exact wr_iret hx hb hr hlocks hP hS dX4_right_48
  · refine lv_iconst (v := nI 1) hx hb dX4_right_35 (by decide) ?_
    refine lv_goto (tgt := 40) hx hb dX4_right_36 (by decide) ?_
    refine lv_iconst (v := nI 0) hx hb dX4_right_40 (by decide) ?_
    refine wr_calli (va_runV (As := [.int (nI 1), .int (nI 1), .int (nI 0)]) (rest := []) ⟨hx, hb, hml, hown, hts⟩ (c_X4_throwing l dC dI cs b g h s.heap.size 1 1 0 hB (by decide) (by decide) (by decide)) (cwV 3 hts gX4_right_X4_throwing rfl rfl rfl (by decide +kernel) ⟨Nat.le_of_ble_eq_true rfl, Nat.le_of_ble_eq_true rfl⟩) (wr_preV (q := (RX4, TX4, 29)) hP hK hD 0 rfl rfl) rfl rfl hl.1 rfl (lv_room (Nat.le_of_ble_eq_true rfl)) dX4_right_41 ⟨Nat.zero_le _, Nat.zero_le _⟩) hS hD hA rfl (fun H locs hP hD hS => ?_)
    have hP : va_P (dC, dI) vwCl (wM cs b (un g 0 1) h) H := hP
    have hD : va_D A (wM cs b (un g 0 1) h) := hD
    refine W.eq (g2 := F0 m 44 ls (.int (nI 1) :: [])) rfl ?_
    have hB : m_bd (un g 0 1) := by (unfold m_bd un; simp; omega)
    refine lv_if_eq (tgt := 49) hx hb dX4_right_44 (by decide) (fun c => absurd c (by decide)) (fun _ => ?_)
    refine lv_iconst (v := nI 0) hx hb dX4_right_47 (by decide) ?_
    exact wr_iret hx hb hr hlocks hP hS dX4_right_48

set_option maxHeartbeats 4000000 in
set_option maxRecDepth 100000 in
theorem c_X4_right_x2 (l : Launch) (dC : Nat → ClassId) (dI : Nat → Nat → Nat) (cs : ClassId × ClassId) (b g : Nat → Nat) (h : Nat → Nat → Int32) (sz : Nat) (j : Nat) (hmk : h 19 j = 0) (hB : m_bd g) (h1 : j < 8)  : Met l yX4_right wsX4_right ({ frames := 1, cells := 0, slots := 0, locals := 23 }) (wrPc (dC, dI) vwCl (wM cs b g h) (tyl cs) sz [.ref (b 0), .int (nI j)]) (wrQ (dC, dI) vwCl (wM cs b (un g 0 2) h) (some (.int (nI 0))) (va_A (wM cs b g h) sz)) 0 0 (va_A (wM cs b g h) sz) := by
  refine wr_of (cc := cX4_right) (maxL := 2) (ret := (some .int)) (own := RX4) (by decide) rfl rfl (Nat.le_of_ble_eq_true rfl) ?_
  intro p e s m below meth c A hsz hAe hx hb hr hml hts hown hlocks hP hK hD hA hS ls hl
  have hl : lv_has ls 2 [(0, .ref (b 0)), (1, .int (nI j))] := hl
  have hinX4 : ∀ w ∈ wsX40, w ∈ wsX4_right := by decide +kernel
  obtain ⟨M1, M2, M3, M4, M5, M6, M7, M8, M9, M10, M11, M12, M13, M14, M15, M16⟩ := id hB
  refine lv_aload_n hx hb dX4_right_0 rfl (lv_at hl 0 rfl) ?_
  refine lv_aload_n hx hb dX4_right_1 rfl (lv_at hl 0 rfl) ?_
  refine lv_iload_n hx hb dX4_right_2 rfl (lv_at hl 1 rfl) ?_
  refine W.callR (W.runV (As := [.int (nI j)]) (rest := [.ref (b 0)]) ⟨hx, hb, hml, hown, hts⟩ (c_X4_isMark l dC dI cs b g h (nI j) hB) (cwV 1 hts gX4_right_X4_isMark rfl rfl rfl (by decide +kernel) ⟨Nat.le_of_ble_eq_true rfl, Nat.le_of_ble_eq_true rfl⟩) (rd_preV (q := (RX4, TX4, 29)) hP hK 0 rfl rfl) rfl rfl hl.1 rfl (lv_room (Nat.le_of_ble_eq_true rfl)) dX4_right_3 ⟨Nat.zero_le _, Nat.zero_le _⟩) ?_
  refine W.eq (g2 := F0 m 6 ls (.int (b2i (inB (nI j) 8)) :: [.ref (b 0)])) rfl ?_
  refine lv_if_ne (tgt := 13) hx hb dX4_right_6 (by decide) (fun c_1 => ?_) (fun c_1 => absurd (b2i_f c_1) (by rw [inB_nI (by omega) (by omega)]; simp; omega))
  have c_1 : inB (nI j) 8 = true := b2i_t c_1
  refine lv_iconst (v := nI 0) hx hb dX4_right_13 (by decide) ?_
  refine lv_aload_n hx hb dX4_right_14 rfl (lv_at hl 0 rfl) ?_
  refine va_get (D := (dC, dI)) (ci := 5) (v := .ref (b 19)) (C := RX4) (T := TX4) (N := 29) hx hb hts hinX4 hown hK hP 0 rfl rfl 19 (by decide) (hts (.fieldLink RX4 47 "RenameRowsModel" "marked" "[Z") (by decide +kernel)) (fun _ h9 => h9) rfl dX4_right_15 ?_
  refine lv_aload_n hx hb dX4_right_18 rfl (lv_at hl 0 rfl) ?_
  refine lv_iload_n hx hb dX4_right_19 rfl (lv_at hl 1 rfl) ?_
  refine W.callR (W.runV (As := [.int (nI j)]) (rest := [.ref (b 19), .int (nI 0), .ref (b 0)]) ⟨hx, hb, hml, hown, hts⟩ (c_X4_isMark l dC dI cs b g h (nI j) hB) (cwV 1 hts gX4_right_X4_isMark rfl rfl rfl (by decide +kernel) ⟨Nat.le_of_ble_eq_true rfl, Nat.le_of_ble_eq_true rfl⟩) (rd_preV (q := (RX4, TX4, 29)) hP hK 0 rfl rfl) rfl rfl hl.1 rfl (lv_room (Nat.le_of_ble_eq_true rfl)) dX4_right_20 ⟨Nat.zero_le _, Nat.zero_le _⟩) ?_
  refine W.eq (g2 := F0 m 23 ls (.int (b2i (inB (nI j) 8)) :: [.ref (b 19), .int (nI 0), .ref (b 0)])) rfl ?_
  refine lv_if_eq (tgt := 30) hx hb dX4_right_23 (by decide) (fun c_2 => absurd (b2i_f c_2) (by rw [inB_nI (by omega) (by omega)]; simp; omega)) (fun c_2 => ?_)
  have c_2 : inB (nI j) 8 = true := b2i_t c_2
  refine lv_iload_n hx hb dX4_right_26 rfl (lv_at hl 1 rfl) ?_
  refine lv_goto (tgt := 31) hx hb dX4_right_27 (by decide) ?_
  refine ar_zld (D := (dC, dI)) (n := 8) (f := h 19) hx hb hK hP 13 1 rfl rfl (by omega) (by omega) dX4_right_31 ?_
  refine lv_if_ne (tgt := 39) hx hb dX4_right_32 (by decide) (fun c_3 => absurd hmk c_3) (fun c_3 => ?_)
  refine lv_iconst (v := nI 1) hx hb dX4_right_35 (by decide) ?_
  refine lv_goto (tgt := 40) hx hb dX4_right_36 (by decide) ?_
  refine lv_iconst (v := nI 0) hx hb dX4_right_40 (by decide) ?_
  refine wr_calli (va_runV (As := [.int (nI 0), .int (nI 1), .int (nI 0)]) (rest := []) ⟨hx, hb, hml, hown, hts⟩ (c_X4_throwing l dC dI cs b g h s.heap.size 0 1 0 hB (by decide) (by decide) (by decide)) (cwV 3 hts gX4_right_X4_throwing rfl rfl rfl (by decide +kernel) ⟨Nat.le_of_ble_eq_true rfl, Nat.le_of_ble_eq_true rfl⟩) (wr_preV (q := (RX4, TX4, 29)) hP hK hD 0 rfl rfl) rfl rfl hl.1 rfl (lv_room (Nat.le_of_ble_eq_true rfl)) dX4_right_41 ⟨Nat.zero_le _, Nat.zero_le _⟩) hS hD hA rfl (fun H locs hP hD hS => ?_)
  have hP : va_P (dC, dI) vwCl (wM cs b (un g 0 2) h) H := hP
  have hD : va_D A (wM cs b (un g 0 2) h) := hD
  refine W.eq (g2 := F0 m 44 ls (.int (nI 1) :: [])) rfl ?_
  have hB : m_bd (un g 0 2) := by (unfold m_bd un; simp; omega)
  refine lv_if_eq (tgt := 49) hx hb dX4_right_44 (by decide) (fun c => absurd c (by decide)) (fun _ => ?_)
  refine lv_iconst (v := nI 0) hx hb dX4_right_47 (by decide) ?_
  exact wr_iret hx hb hr hlocks hP hS dX4_right_48

set_option maxHeartbeats 4000000 in
set_option maxRecDepth 100000 in
theorem c_X4_wrong_x1 (l : Launch) (dC : Nat → ClassId) (dI : Nat → Nat → Nat) (cs : ClassId × ClassId) (b g : Nat → Nat) (h : Nat → Nat → Int32) (sz : Nat) (y : Int32) (hbad : inB y 8 = false) (hB : m_bd g)  : Met l yX4_wrong wsX4_wrong ({ frames := 1, cells := 0, slots := 0, locals := 23 }) (wrPc (dC, dI) vwCl (wM cs b g h) (tyl cs) sz [.ref (b 0), .int y]) (wrQ (dC, dI) vwCl (wM cs b (un g 0 1) h) (some (.int (nI 0))) (va_A (wM cs b g h) sz)) 0 0 (va_A (wM cs b g h) sz) := by
  refine wr_of (cc := cX4_wrong) (maxL := 4) (ret := (some .int)) (own := RX4) (by decide) rfl rfl (Nat.le_of_ble_eq_true rfl) ?_
  intro p e s m below meth c A hsz hAe hx hb hr hml hts hown hlocks hP hK hD hA hS ls hl
  have hl : lv_has ls 4 [(0, .ref (b 0)), (1, .int y)] := hl
  have hinX4 : ∀ w ∈ wsX40, w ∈ wsX4_wrong := by decide +kernel
  obtain ⟨M1, M2, M3, M4, M5, M6, M7, M8, M9, M10, M11, M12, M13, M14, M15, M16⟩ := id hB
  refine lv_aload_n hx hb dX4_wrong_0 rfl (lv_at hl 0 rfl) ?_
  refine lv_aload_n hx hb dX4_wrong_1 rfl (lv_at hl 0 rfl) ?_
  refine lv_iload_n hx hb dX4_wrong_2 rfl (lv_at hl 1 rfl) ?_
  refine W.callR (W.runV (As := [.int y]) (rest := [.ref (b 0)]) ⟨hx, hb, hml, hown, hts⟩ (c_X4_isMark l dC dI cs b g h y hB) (cwV 1 hts gX4_wrong_X4_isMark rfl rfl rfl (by decide +kernel) ⟨Nat.le_of_ble_eq_true rfl, Nat.le_of_ble_eq_true rfl⟩) (rd_preV (q := (RX4, TX4, 29)) hP hK 0 rfl rfl) rfl rfl hl.1 rfl (lv_room (Nat.le_of_ble_eq_true rfl)) dX4_wrong_3 ⟨Nat.zero_le _, Nat.zero_le _⟩) ?_
  refine W.eq (g2 := F0 m 6 ls (.int (b2i (inB y 8)) :: [.ref (b 0)])) rfl ?_
  refine lv_if_ne (tgt := 13) hx hb dX4_wrong_6 (by decide) (fun c_1 => absurd (b2i_t c_1) (by rw [hbad]; decide)) (fun c_1 => ?_)
  have c_1 : inB y 8 = false := b2i_f c_1
  refine lv_iconst (v := nI 1) hx hb dX4_wrong_9 (by decide) ?_
  refine lv_goto (tgt := 14) hx hb dX4_wrong_10 (by decide) ?_
  refine lv_aload_n hx hb dX4_wrong_14 rfl (lv_at hl 0 rfl) ?_
  refine va_get (D := (dC, dI)) (ci := 5) (v := .ref (b 19)) (C := RX4) (T := TX4) (N := 29) hx hb hts hinX4 hown hK hP 0 rfl rfl 19 (by decide) (hts (.fieldLink RX4 47 "RenameRowsModel" "marked" "[Z") (by decide +kernel)) (fun _ h9 => h9) rfl dX4_wrong_15 ?_
  refine lv_aload_n hx hb dX4_wrong_18 rfl (lv_at hl 0 rfl) ?_
  refine lv_iload_n hx hb dX4_wrong_19 rfl (lv_at hl 1 rfl) ?_
  refine W.callR (W.runV (As := [.int y]) (rest := [.ref (b 19), .int (nI 1), .ref (b 0)]) ⟨hx, hb, hml, hown, hts⟩ (c_X4_isMark l dC dI cs b g h y hB) (cwV 1 hts gX4_wrong_X4_isMark rfl rfl rfl (by decide +kernel) ⟨Nat.le_of_ble_eq_true rfl, Nat.le_of_ble_eq_true rfl⟩) (rd_preV (q := (RX4, TX4, 29)) hP hK 0 rfl rfl) rfl rfl hl.1 rfl (lv_room (Nat.le_of_ble_eq_true rfl)) dX4_wrong_20 ⟨Nat.zero_le _, Nat.zero_le _⟩) ?_
  refine W.eq (g2 := F0 m 23 ls (.int (b2i (inB y 8)) :: [.ref (b 19), .int (nI 1), .ref (b 0)])) rfl ?_
  refine lv_if_eq (tgt := 30) hx hb dX4_wrong_23 (by decide) (fun c_2 => ?_) (fun c_2 => absurd (b2i_t c_2) (by rw [hbad]; decide))
  have c_2 : inB y 8 = false := b2i_f c_2
  refine lv_iconst (v := nI 0) hx hb dX4_wrong_30 (by decide) ?_
  refine ar_zld (D := (dC, dI)) (n := 8) (f := h 19) hx hb hK hP 13 1 rfl rfl (by omega) (by omega) dX4_wrong_31 ?_
  refine lv_if_ne (tgt := 39) hx hb dX4_wrong_32 (by decide) (fun c_3 => ?_) (fun c_3 => ?_)
  · refine lv_iconst (v := nI 0) hx hb dX4_wrong_39 (by decide) ?_
    refine lv_iconst (v := nI 0) hx hb dX4_wrong_40 (by decide) ?_
    refine wr_calli (va_runV (As := [.int (nI 1), .int (nI 0), .int (nI 0)]) (rest := []) ⟨hx, hb, hml, hown, hts⟩ (c_X4_throwing l dC dI cs b g h s.heap.size 1 0 0 hB (by decide) (by decide) (by decide)) (cwV 3 hts gX4_wrong_X4_throwing rfl rfl rfl (by decide +kernel) ⟨Nat.le_of_ble_eq_true rfl, Nat.le_of_ble_eq_true rfl⟩) (wr_preV (q := (RX4, TX4, 29)) hP hK hD 0 rfl rfl) rfl rfl hl.1 rfl (lv_room (Nat.le_of_ble_eq_true rfl)) dX4_wrong_41 ⟨Nat.zero_le _, Nat.zero_le _⟩) hS hD hA rfl (fun H locs hP hD hS => ?_)
    have hP : va_P (dC, dI) vwCl (wM cs b (un g 0 1) h) H := hP
    have hD : va_D A (wM cs b (un g 0 1) h) := hD
    refine W.eq (g2 := F0 m 44 ls (.int (nI 1) :: [])) rfl ?_
    have hB : m_bd (un g 0 1) := by (unfold m_bd un; simp; omega)
    refine lv_if_eq (tgt := 49) hx hb dX4_wrong_44 (by decide) (fun c => absurd c (by decide)) (fun _ => ?_)
    refine lv_iconst (v := nI 0) hx hb dX4_wrong_47 (by decide) ?_
    exact wr_iret hx hb hr hlocks hP hS dX4_wrong_48
  · refine lv_iconst (v := nI 1) hx hb dX4_wrong_35 (by decide) ?_
    refine lv_goto (tgt := 40) hx hb dX4_wrong_36 (by decide) ?_
    refine lv_iconst (v := nI 0) hx hb dX4_wrong_40 (by decide) ?_
    refine wr_calli (va_runV (As := [.int (nI 1), .int (nI 1), .int (nI 0)]) (rest := []) ⟨hx, hb, hml, hown, hts⟩ (c_X4_throwing l dC dI cs b g h s.heap.size 1 1 0 hB (by decide) (by decide) (by decide)) (cwV 3 hts gX4_wrong_X4_throwing rfl rfl rfl (by decide +kernel) ⟨Nat.le_of_ble_eq_true rfl, Nat.le_of_ble_eq_true rfl⟩) (wr_preV (q := (RX4, TX4, 29)) hP hK hD 0 rfl rfl) rfl rfl hl.1 rfl (lv_room (Nat.le_of_ble_eq_true rfl)) dX4_wrong_41 ⟨Nat.zero_le _, Nat.zero_le _⟩) hS hD hA rfl (fun H locs hP hD hS => ?_)
    have hP : va_P (dC, dI) vwCl (wM cs b (un g 0 1) h) H := hP
    have hD : va_D A (wM cs b (un g 0 1) h) := hD
    refine W.eq (g2 := F0 m 44 ls (.int (nI 1) :: [])) rfl ?_
    have hB : m_bd (un g 0 1) := by (unfold m_bd un; simp; omega)
    refine lv_if_eq (tgt := 49) hx hb dX4_wrong_44 (by decide) (fun c => absurd c (by decide)) (fun _ => ?_)
    refine lv_iconst (v := nI 0) hx hb dX4_wrong_47 (by decide) ?_
    exact wr_iret hx hb hr hlocks hP hS dX4_wrong_48

set_option maxHeartbeats 4000000 in
set_option maxRecDepth 100000 in
theorem c_X4_wrong_x2 (l : Launch) (dC : Nat → ClassId) (dI : Nat → Nat → Nat) (cs : ClassId × ClassId) (b g : Nat → Nat) (h : Nat → Nat → Int32) (sz : Nat) (j : Nat) (hmk : h 19 j = 0) (hB : m_bd g) (h1 : j < 8)  : Met l yX4_wrong wsX4_wrong ({ frames := 1, cells := 0, slots := 0, locals := 23 }) (wrPc (dC, dI) vwCl (wM cs b g h) (tyl cs) sz [.ref (b 0), .int (nI j)]) (wrQ (dC, dI) vwCl (wM cs b (un g 0 2) h) (some (.int (nI 0))) (va_A (wM cs b g h) sz)) 0 0 (va_A (wM cs b g h) sz) := by
  refine wr_of (cc := cX4_wrong) (maxL := 4) (ret := (some .int)) (own := RX4) (by decide) rfl rfl (Nat.le_of_ble_eq_true rfl) ?_
  intro p e s m below meth c A hsz hAe hx hb hr hml hts hown hlocks hP hK hD hA hS ls hl
  have hl : lv_has ls 4 [(0, .ref (b 0)), (1, .int (nI j))] := hl
  have hinX4 : ∀ w ∈ wsX40, w ∈ wsX4_wrong := by decide +kernel
  obtain ⟨M1, M2, M3, M4, M5, M6, M7, M8, M9, M10, M11, M12, M13, M14, M15, M16⟩ := id hB
  refine lv_aload_n hx hb dX4_wrong_0 rfl (lv_at hl 0 rfl) ?_
  refine lv_aload_n hx hb dX4_wrong_1 rfl (lv_at hl 0 rfl) ?_
  refine lv_iload_n hx hb dX4_wrong_2 rfl (lv_at hl 1 rfl) ?_
  refine W.callR (W.runV (As := [.int (nI j)]) (rest := [.ref (b 0)]) ⟨hx, hb, hml, hown, hts⟩ (c_X4_isMark l dC dI cs b g h (nI j) hB) (cwV 1 hts gX4_wrong_X4_isMark rfl rfl rfl (by decide +kernel) ⟨Nat.le_of_ble_eq_true rfl, Nat.le_of_ble_eq_true rfl⟩) (rd_preV (q := (RX4, TX4, 29)) hP hK 0 rfl rfl) rfl rfl hl.1 rfl (lv_room (Nat.le_of_ble_eq_true rfl)) dX4_wrong_3 ⟨Nat.zero_le _, Nat.zero_le _⟩) ?_
  refine W.eq (g2 := F0 m 6 ls (.int (b2i (inB (nI j) 8)) :: [.ref (b 0)])) rfl ?_
  refine lv_if_ne (tgt := 13) hx hb dX4_wrong_6 (by decide) (fun c_1 => ?_) (fun c_1 => absurd (b2i_f c_1) (by rw [inB_nI (by omega) (by omega)]; simp; omega))
  have c_1 : inB (nI j) 8 = true := b2i_t c_1
  refine lv_iconst (v := nI 0) hx hb dX4_wrong_13 (by decide) ?_
  refine lv_aload_n hx hb dX4_wrong_14 rfl (lv_at hl 0 rfl) ?_
  refine va_get (D := (dC, dI)) (ci := 5) (v := .ref (b 19)) (C := RX4) (T := TX4) (N := 29) hx hb hts hinX4 hown hK hP 0 rfl rfl 19 (by decide) (hts (.fieldLink RX4 47 "RenameRowsModel" "marked" "[Z") (by decide +kernel)) (fun _ h9 => h9) rfl dX4_wrong_15 ?_
  refine lv_aload_n hx hb dX4_wrong_18 rfl (lv_at hl 0 rfl) ?_
  refine lv_iload_n hx hb dX4_wrong_19 rfl (lv_at hl 1 rfl) ?_
  refine W.callR (W.runV (As := [.int (nI j)]) (rest := [.ref (b 19), .int (nI 0), .ref (b 0)]) ⟨hx, hb, hml, hown, hts⟩ (c_X4_isMark l dC dI cs b g h (nI j) hB) (cwV 1 hts gX4_wrong_X4_isMark rfl rfl rfl (by decide +kernel) ⟨Nat.le_of_ble_eq_true rfl, Nat.le_of_ble_eq_true rfl⟩) (rd_preV (q := (RX4, TX4, 29)) hP hK 0 rfl rfl) rfl rfl hl.1 rfl (lv_room (Nat.le_of_ble_eq_true rfl)) dX4_wrong_20 ⟨Nat.zero_le _, Nat.zero_le _⟩) ?_
  refine W.eq (g2 := F0 m 23 ls (.int (b2i (inB (nI j) 8)) :: [.ref (b 19), .int (nI 0), .ref (b 0)])) rfl ?_
  refine lv_if_eq (tgt := 30) hx hb dX4_wrong_23 (by decide) (fun c_2 => absurd (b2i_f c_2) (by rw [inB_nI (by omega) (by omega)]; simp; omega)) (fun c_2 => ?_)
  have c_2 : inB (nI j) 8 = true := b2i_t c_2
  refine lv_iload_n hx hb dX4_wrong_26 rfl (lv_at hl 1 rfl) ?_
  refine lv_goto (tgt := 31) hx hb dX4_wrong_27 (by decide) ?_
  refine ar_zld (D := (dC, dI)) (n := 8) (f := h 19) hx hb hK hP 13 1 rfl rfl (by omega) (by omega) dX4_wrong_31 ?_
  refine lv_if_ne (tgt := 39) hx hb dX4_wrong_32 (by decide) (fun c_3 => absurd hmk c_3) (fun c_3 => ?_)
  refine lv_iconst (v := nI 1) hx hb dX4_wrong_35 (by decide) ?_
  refine lv_goto (tgt := 40) hx hb dX4_wrong_36 (by decide) ?_
  refine lv_iconst (v := nI 0) hx hb dX4_wrong_40 (by decide) ?_
  refine wr_calli (va_runV (As := [.int (nI 0), .int (nI 1), .int (nI 0)]) (rest := []) ⟨hx, hb, hml, hown, hts⟩ (c_X4_throwing l dC dI cs b g h s.heap.size 0 1 0 hB (by decide) (by decide) (by decide)) (cwV 3 hts gX4_wrong_X4_throwing rfl rfl rfl (by decide +kernel) ⟨Nat.le_of_ble_eq_true rfl, Nat.le_of_ble_eq_true rfl⟩) (wr_preV (q := (RX4, TX4, 29)) hP hK hD 0 rfl rfl) rfl rfl hl.1 rfl (lv_room (Nat.le_of_ble_eq_true rfl)) dX4_wrong_41 ⟨Nat.zero_le _, Nat.zero_le _⟩) hS hD hA rfl (fun H locs hP hD hS => ?_)
  have hP : va_P (dC, dI) vwCl (wM cs b (un g 0 2) h) H := hP
  have hD : va_D A (wM cs b (un g 0 2) h) := hD
  refine W.eq (g2 := F0 m 44 ls (.int (nI 1) :: [])) rfl ?_
  have hB : m_bd (un g 0 2) := by (unfold m_bd un; simp; omega)
  refine lv_if_eq (tgt := 49) hx hb dX4_wrong_44 (by decide) (fun c => absurd c (by decide)) (fun _ => ?_)
  refine lv_iconst (v := nI 0) hx hb dX4_wrong_47 (by decide) ?_
  exact wr_iret hx hb hr hlocks hP hS dX4_wrong_48

set_option maxHeartbeats 4000000 in
set_option maxRecDepth 100000 in
theorem c_X4_right_v (l : Launch) (dC : Nat → ClassId) (dI : Nat → Nat → Nat) (cs : ClassId × ClassId) (b g : Nat → Nat) (h : Nat → Nat → Int32) (sz : Nat) (j : Nat) (hmk : ¬ h 19 j = 0) (hB : m_bd g) (h1 : j < 8) (h2 : 0 < g 23)  : Met l yX4_right wsX4_right ({ frames := 1, cells := 0, slots := 0, locals := 23 }) (wrPc (dC, dI) vwCl (wM cs b g h) (tyl cs) sz [.ref (b 0), .int (nI j)]) (wrQ (dC, dI) vwCl (wM cs b (un (un g 0 0) 23 ((g 23) - 1)) (uf h 19 (upd (h 19) j (nI 0)))) (some (.int (nI (g 23 - 1)))) (va_A (wM cs b g h) sz)) 0 0 (va_A (wM cs b g h) sz) := by
  refine wr_of (cc := cX4_right) (maxL := 2) (ret := (some .int)) (own := RX4) (by decide) rfl rfl (Nat.le_of_ble_eq_true rfl) ?_
  intro p e s m below meth c A hsz hAe hx hb hr hml hts hown hlocks hP hK hD hA hS ls hl
  have hl : lv_has ls 2 [(0, .ref (b 0)), (1, .int (nI j))] := hl
  have hinX4 : ∀ w ∈ wsX40, w ∈ wsX4_right := by decide +kernel
  obtain ⟨M1, M2, M3, M4, M5, M6, M7, M8, M9, M10, M11, M12, M13, M14, M15, M16⟩ := id hB
  refine lv_aload_n hx hb dX4_right_0 rfl (lv_at hl 0 rfl) ?_
  refine lv_aload_n hx hb dX4_right_1 rfl (lv_at hl 0 rfl) ?_
  refine lv_iload_n hx hb dX4_right_2 rfl (lv_at hl 1 rfl) ?_
  refine W.callR (W.runV (As := [.int (nI j)]) (rest := [.ref (b 0)]) ⟨hx, hb, hml, hown, hts⟩ (c_X4_isMark l dC dI cs b g h (nI j) hB) (cwV 1 hts gX4_right_X4_isMark rfl rfl rfl (by decide +kernel) ⟨Nat.le_of_ble_eq_true rfl, Nat.le_of_ble_eq_true rfl⟩) (rd_preV (q := (RX4, TX4, 29)) hP hK 0 rfl rfl) rfl rfl hl.1 rfl (lv_room (Nat.le_of_ble_eq_true rfl)) dX4_right_3 ⟨Nat.zero_le _, Nat.zero_le _⟩) ?_
  refine W.eq (g2 := F0 m 6 ls (.int (b2i (inB (nI j) 8)) :: [.ref (b 0)])) rfl ?_
  refine lv_if_ne (tgt := 13) hx hb dX4_right_6 (by decide) (fun c_1 => ?_) (fun c_1 => absurd (b2i_f c_1) (by rw [inB_nI (by omega) (by omega)]; simp; omega))
  have c_1 : inB (nI j) 8 = true := b2i_t c_1
  refine lv_iconst (v := nI 0) hx hb dX4_right_13 (by decide) ?_
  refine lv_aload_n hx hb dX4_right_14 rfl (lv_at hl 0 rfl) ?_
  refine va_get (D := (dC, dI)) (ci := 5) (v := .ref (b 19)) (C := RX4) (T := TX4) (N := 29) hx hb hts hinX4 hown hK hP 0 rfl rfl 19 (by decide) (hts (.fieldLink RX4 47 "RenameRowsModel" "marked" "[Z") (by decide +kernel)) (fun _ h9 => h9) rfl dX4_right_15 ?_
  refine lv_aload_n hx hb dX4_right_18 rfl (lv_at hl 0 rfl) ?_
  refine lv_iload_n hx hb dX4_right_19 rfl (lv_at hl 1 rfl) ?_
  refine W.callR (W.runV (As := [.int (nI j)]) (rest := [.ref (b 19), .int (nI 0), .ref (b 0)]) ⟨hx, hb, hml, hown, hts⟩ (c_X4_isMark l dC dI cs b g h (nI j) hB) (cwV 1 hts gX4_right_X4_isMark rfl rfl rfl (by decide +kernel) ⟨Nat.le_of_ble_eq_true rfl, Nat.le_of_ble_eq_true rfl⟩) (rd_preV (q := (RX4, TX4, 29)) hP hK 0 rfl rfl) rfl rfl hl.1 rfl (lv_room (Nat.le_of_ble_eq_true rfl)) dX4_right_20 ⟨Nat.zero_le _, Nat.zero_le _⟩) ?_
  refine W.eq (g2 := F0 m 23 ls (.int (b2i (inB (nI j) 8)) :: [.ref (b 19), .int (nI 0), .ref (b 0)])) rfl ?_
  refine lv_if_eq (tgt := 30) hx hb dX4_right_23 (by decide) (fun c_2 => absurd (b2i_f c_2) (by rw [inB_nI (by omega) (by omega)]; simp; omega)) (fun c_2 => ?_)
  have c_2 : inB (nI j) 8 = true := b2i_t c_2
  refine lv_iload_n hx hb dX4_right_26 rfl (lv_at hl 1 rfl) ?_
  refine lv_goto (tgt := 31) hx hb dX4_right_27 (by decide) ?_
  refine ar_zld (D := (dC, dI)) (n := 8) (f := h 19) hx hb hK hP 13 1 rfl rfl (by omega) (by omega) dX4_right_31 ?_
  refine lv_if_ne (tgt := 39) hx hb dX4_right_32 (by decide) (fun c_3 => ?_) (fun c_3 => absurd c_3 hmk)
  refine lv_iconst (v := nI 0) hx hb dX4_right_39 (by decide) ?_
  refine lv_iconst (v := nI 0) hx hb dX4_right_40 (by decide) ?_
  refine wr_calli (va_runV (As := [.int (nI 0), .int (nI 0), .int (nI 0)]) (rest := []) ⟨hx, hb, hml, hown, hts⟩ (c_X4_throwing l dC dI cs b g h s.heap.size 0 0 0 hB (by decide) (by decide) (by decide)) (cwV 3 hts gX4_right_X4_throwing rfl rfl rfl (by decide +kernel) ⟨Nat.le_of_ble_eq_true rfl, Nat.le_of_ble_eq_true rfl⟩) (wr_preV (q := (RX4, TX4, 29)) hP hK hD 0 rfl rfl) rfl rfl hl.1 rfl (lv_room (Nat.le_of_ble_eq_true rfl)) dX4_right_41 ⟨Nat.zero_le _, Nat.zero_le _⟩) hS hD hA rfl (fun H locs hP hD hS => ?_)
  have hP : va_P (dC, dI) vwCl (wM cs b (un g 0 0) h) H := hP
  have hD : va_D A (wM cs b (un g 0 0) h) := hD
  refine W.eq (g2 := F0 m 44 ls (.int (nI 0) :: [])) rfl ?_
  have hB : m_bd (un g 0 0) := by (unfold m_bd un; simp; omega)
  refine lv_if_eq (tgt := 49) hx hb dX4_right_44 (by decide) (fun _ => ?_) (fun c => absurd (by decide) c)
  refine lv_aload_n hx hb dX4_right_49 rfl (lv_at hl 0 rfl) ?_
  refine lv_iload_n hx hb dX4_right_50 rfl (lv_at hl 1 rfl) ?_
  refine wr_callv (va_runV (As := [.int (nI j)]) (rest := []) ⟨hx, hb, hml, hown, hts⟩ (c_X4_drop l dC dI cs b (un g 0 0) h H.size j hB (by first | omega | assumption) (by first | omega | assumption)) (cwV 1 hts gX4_right_X4_drop rfl rfl rfl (by decide +kernel) ⟨Nat.le_of_ble_eq_true rfl, Nat.le_of_ble_eq_true rfl⟩) (wr_preV (q := (RX4, TX4, 29)) hP hK hD 0 rfl rfl) rfl rfl hl.1 rfl (lv_room (Nat.le_of_ble_eq_true rfl)) dX4_right_51 ⟨Nat.zero_le _, Nat.zero_le _⟩) hS hD hA rfl (fun H locs hP hD hS => ?_)
  have hP : va_P (dC, dI) vwCl (wM cs b (un (un g 0 0) 23 ((g 23) - 1)) (uf h 19 (upd (h 19) j (nI 0)))) H := hP
  have hD : va_D A (wM cs b (un (un g 0 0) 23 ((g 23) - 1)) (uf h 19 (upd (h 19) j (nI 0)))) := hD
  refine lv_aload_n hx hb dX4_right_54 rfl (lv_at hl 0 rfl) ?_
  refine va_get (D := (dC, dI)) (ci := 5) (v := .int (nI ((g 23) - 1))) (C := RX4) (T := TX4) (N := 29) hx hb hts hinX4 hown hK hP 0 rfl rfl 23 (by decide) (hts (.fieldLink RX4 140 "RenameRowsModel" "marks" "I") (by decide +kernel)) (fun _ h9 => h9) rfl dX4_right_55 ?_
  refine tp_eq (show _ = nI (g 23 - 1) by rfl) ?_
  exact wr_iret hx hb hr hlocks hP hS dX4_right_58

set_option maxHeartbeats 4000000 in
set_option maxRecDepth 100000 in
theorem c_X4_branch_v (l : Launch) (dC : Nat → ClassId) (dI : Nat → Nat → Nat) (cs : ClassId × ClassId) (b g : Nat → Nat) (h : Nat → Nat → Int32) (sz : Nat) (hB : m_bd g)  : Met l yX4_branch wsX4_branch ({ frames := 0, cells := 0, slots := 0, locals := 0 }) (wrPc (dC, dI) vwCl (wM cs b g h) (tyl cs) sz [.ref (b 0)]) (wrQ (dC, dI) vwCl (wM cs b (m_loN g h) (m_loF g h)) (some (.int (m_lo h))) (va_A (wM cs b g h) sz)) 0 0 (va_A (wM cs b g h) sz) := by
  refine wr_of (cc := cX4_branch) (maxL := 2) (ret := (some .int)) (own := RX4) (by decide) rfl rfl (Nat.le_of_ble_eq_true rfl) ?_
  intro p e s m below meth c A hsz hAe hx hb hr hml hts hown hlocks hP hK hD hA hS ls hl
  have hl : lv_has ls 2 [(0, .ref (b 0))] := hl
  have hinX4 : ∀ w ∈ wsX40, w ∈ wsX4_branch := by decide +kernel
  obtain ⟨M1, M2, M3, M4, M5, M6, M7, M8, M9, M10, M11, M12, M13, M14, M15, M16⟩ := id hB
  refine lv_aload_n hx hb dX4_branch_0 rfl (lv_at hl 0 rfl) ?_
  refine lv_iconst (v := nI 0) hx hb dX4_branch_1 (by decide) ?_
  refine va_put (D := (dC, dI)) (ci := 5) (v := .int (nI 0)) (ty := .int) (C := RX4) (T := TX4) (N := 29) hx hb hts hinX4 tyX4 tyX4_ok nmX4 hown hK hP hD hS 0 rfl rfl 0 (by decide) (hts (.fieldLink RX4 76 "RenameRowsModel" "thrown" "I") (by decide +kernel)) (fun _ h9 => h9) rfl (by decide +kernel) rfl rfl (Nat.le_of_ble_eq_true rfl) dX4_branch_2 (fun H locs hP hD hS => ?_)
  have hP : va_P (dC, dI) vwCl (wM cs b (un g 0 0) h) H := hP
  have hD : va_D A (wM cs b (un g 0 0) h) := hD
  refine lv_iconst (v := nI 0) hx hb dX4_branch_5 (by decide) ?_
  refine lv_istore_n (lv' := [(1, .int (nI 0)), (0, .ref (b 0))]) hx hb dX4_branch_6 rfl hl (by decide) rfl (fun ls hl => ?_)
  have key : ∀ (k t : Nat), t + k = 8 → m_lo h = m_lw h k t → ∀ (H : Heap) (locs : List Loc), va_P (dC, dI) vwCl (wM cs b (un g 0 0) h) H → va_D A (wM cs b (un g 0 0) h) → va_S A s.heap H locs → ∀ ls : Array Slot, lv_has ls 2 [(1, .int (nI t)), (0, .ref (b 0))] → W p l e ({ frames := 0, cells := 0, slots := 0, locals := 0 } : Room) s m ([.ref (b 0)] : List Value).toArray below meth c H locs 0 0 (MQ below (wrQ (dC, dI) vwCl (wM cs b (m_loN g h) (m_loF g h)) (some (.int (m_lo h))) A) ([.ref (b 0)] : List Value).toArray s 0 0 A) (F0 m 7 ls []) := by
    intro k
    induction k with
    | zero =>
      intro t ht hs H locs hP hD hS ls hl
      refine lv_iload_n hx hb dX4_branch_7 rfl (lv_at hl 0 rfl) ?_
      refine lv_bipush (v := nI 8) hx hb dX4_branch_8 (by decide) ?_
      refine lv_icmp_ge (tgt := 85) hx hb dX4_branch_10 (by decide) (fun c_1 => ?_) (fun c_1 => absurd (nI_le (by omega) (by omega)) c_1)
      have c_1 : 8 ≤ t := (nI_leI (by omega) (by omega)).mp c_1
      refine lv_iconst (v := (-1)) hx hb dX4_branch_85 (by decide) ?_
      have hP : va_P (dC, dI) vwCl (wM cs b (m_loN g h) (m_loF g h)) H := by
        have e9 : (wM cs b (un g 0 0) h) = (wM cs b (m_loN g h) (m_loF g h)) := by first | (have e7 : m_lo h = nI t := (by rw [hs]; simp [m_lw, c_1]); simp [m_loN, m_loF, e7, nI_m1 (show t < 2 ^ 31 by omega), cl32_nI (show t < 2 ^ 31 by omega)]; done) | (have e7 : m_lo h = -1 := (by rw [hs]; rfl); simp [m_loN, m_loF, e7]; done)
        rw [← e9]; exact hP
      refine tp_eq (show _ = m_lo h by first | (have e7 : m_lo h = nI t := (by rw [hs]; simp [m_lw, c_1]); simp [m_loN, m_loF, e7, nI_m1 (show t < 2 ^ 31 by omega), cl32_nI (show t < 2 ^ 31 by omega)]; done) | (have e7 : m_lo h = -1 := (by rw [hs]; rfl); simp [m_loN, m_loF, e7]; done)) ?_
      exact wr_iret hx hb hr hlocks hP hS dX4_branch_86
    | succ k ih =>
      intro t ht hs H locs hP hD hS ls hl
      refine lv_iload_n hx hb dX4_branch_7 rfl (lv_at hl 0 rfl) ?_
      refine lv_bipush (v := nI 8) hx hb dX4_branch_8 (by decide) ?_
      refine lv_icmp_ge (tgt := 85) hx hb dX4_branch_10 (by decide) (fun c_2 => absurd ((nI_leI (by omega) (by omega)).mp c_2) (by omega)) (fun c_2 => ?_)
      have c_2 : ¬ 8 ≤ t := fun q => c_2 ((nI_leI (by omega) (by omega)).mpr q)
      refine lv_aload_n hx hb dX4_branch_13 rfl (lv_at hl 1 rfl) ?_
      refine va_get (D := (dC, dI)) (ci := 5) (v := .ref (b 19)) (C := RX4) (T := TX4) (N := 29) hx hb hts hinX4 hown hK hP 0 rfl rfl 19 (by decide) (hts (.fieldLink RX4 47 "RenameRowsModel" "marked" "[Z") (by decide +kernel)) (fun _ h9 => h9) rfl dX4_branch_14 ?_
      refine lv_iload_n hx hb dX4_branch_17 rfl (lv_at hl 0 rfl) ?_
      refine ar_zld (D := (dC, dI)) (n := 8) (f := h 19) hx hb hK hP 13 1 rfl rfl (by omega) (by omega) dX4_branch_18 ?_
      refine lv_if_eq (tgt := 25) hx hb dX4_branch_19 (by decide) (fun c_3 => ?_) (fun c_3 => ?_)
      · refine lv_aload_n hx hb dX4_branch_25 rfl (lv_at hl 1 rfl) ?_
        refine va_get (D := (dC, dI)) (ci := 5) (v := .ref (b 19)) (C := RX4) (T := TX4) (N := 29) hx hb hts hinX4 hown hK hP 0 rfl rfl 19 (by decide) (hts (.fieldLink RX4 47 "RenameRowsModel" "marked" "[Z") (by decide +kernel)) (fun _ h9 => h9) rfl dX4_branch_26 ?_
        refine lv_iload_n hx hb dX4_branch_29 rfl (lv_at hl 0 rfl) ?_
        refine lv_iconst (v := nI 1) hx hb dX4_branch_30 (by decide) ?_
        refine ar_zst (D := (dC, dI)) (n := 8) (f := h 19) hx hb hK hP hD hS 13 1 rfl rfl (y := nI 1) (by decide) (by omega) (by omega) dX4_branch_31 (fun H locs hP hD hS => ?_)
        have hP : va_P (dC, dI) vwCl (wM cs b (un g 0 0) (uf h 19 (upd (h 19) t (nI 1)))) H := hP
        have hD : va_D A (wM cs b (un g 0 0) (uf h 19 (upd (h 19) t (nI 1)))) := hD
        refine lv_aload_n hx hb dX4_branch_32 rfl (lv_at hl 1 rfl) ?_
        refine lv_dup hx hb dX4_branch_33 rfl ?_
        refine va_get (D := (dC, dI)) (ci := 5) (v := .int (nI (g 23))) (C := RX4) (T := TX4) (N := 29) hx hb hts hinX4 hown hK hP 0 rfl rfl 23 (by decide) (hts (.fieldLink RX4 140 "RenameRowsModel" "marks" "I") (by decide +kernel)) (fun _ h9 => h9) rfl dX4_branch_34 ?_
        refine lv_iconst (v := nI 1) hx hb dX4_branch_37 (by decide) ?_
        refine lv_iadd hx hb dX4_branch_38 ?_
        refine tp_eq (nI_add (g 23) 1) ?_
        refine va_put (D := (dC, dI)) (ci := 5) (v := .int (nI ((g 23) + 1))) (ty := .int) (C := RX4) (T := TX4) (N := 29) hx hb hts hinX4 tyX4 tyX4_ok nmX4 hown hK hP hD hS 0 rfl rfl 23 (by decide) (hts (.fieldLink RX4 140 "RenameRowsModel" "marks" "I") (by decide +kernel)) (fun _ h9 => h9) rfl (by decide +kernel) rfl rfl (Nat.le_of_ble_eq_true rfl) dX4_branch_39 (fun H locs hP hD hS => ?_)
        have hP : va_P (dC, dI) vwCl (wM cs b (un (un g 0 0) 23 ((g 23) + 1)) (uf h 19 (upd (h 19) t (nI 1)))) H := hP
        have hD : va_D A (wM cs b (un (un g 0 0) 23 ((g 23) + 1)) (uf h 19 (upd (h 19) t (nI 1)))) := hD
        refine lv_aload_n hx hb dX4_branch_42 rfl (lv_at hl 1 rfl) ?_
        refine va_get (D := (dC, dI)) (ci := 5) (v := .ref (b 20)) (C := RX4) (T := TX4) (N := 29) hx hb hts hinX4 hown hK hP 0 rfl rfl 20 (by decide) (hts (.fieldLink RX4 50 "RenameRowsModel" "before" "[I") (by decide +kernel)) (fun _ h9 => h9) rfl dX4_branch_43 ?_
        refine lv_iload_n hx hb dX4_branch_46 rfl (lv_at hl 0 rfl) ?_
        refine lv_aload_n hx hb dX4_branch_47 rfl (lv_at hl 1 rfl) ?_
        refine va_get (D := (dC, dI)) (ci := 5) (v := .int (nI (g 25))) (C := RX4) (T := TX4) (N := 29) hx hb hts hinX4 hown hK hP 0 rfl rfl 25 (by decide) (hts (.fieldLink RX4 127 "RenameRowsModel" "done" "I") (by decide +kernel)) (fun _ h9 => h9) rfl dX4_branch_48 ?_
        refine lv_aload_n hx hb dX4_branch_51 rfl (lv_at hl 1 rfl) ?_
        refine va_get (D := (dC, dI)) (ci := 5) (v := .int (nI (g 10))) (C := RX4) (T := TX4) (N := 29) hx hb hts hinX4 hown hK hP 0 rfl rfl 10 (by decide) (hts (.fieldLink RX4 86 "RenameRowsModel" "rows" "I") (by decide +kernel)) (fun _ h9 => h9) rfl dX4_branch_52 ?_
        refine lv_iadd hx hb dX4_branch_55 ?_
        refine tp_eq (nI_add (g 25) (g 10)) ?_
        refine ar_st (D := (dC, dI)) (n := 8) (f := h 20) hx hb hK hP hD hS 14 0 rfl rfl (by omega) (by omega) dX4_branch_56 (fun H locs hP hD hS => ?_)
        have hP : va_P (dC, dI) vwCl (wM cs b (un (un g 0 0) 23 ((g 23) + 1)) (uf (uf h 19 (upd (h 19) t (nI 1))) 20 (upd (h 20) t (nI ((g 25) + (g 10)))))) H := hP
        have hD : va_D A (wM cs b (un (un g 0 0) 23 ((g 23) + 1)) (uf (uf h 19 (upd (h 19) t (nI 1))) 20 (upd (h 20) t (nI ((g 25) + (g 10)))))) := hD
        refine lv_aload_n hx hb dX4_branch_57 rfl (lv_at hl 1 rfl) ?_
        refine va_get (D := (dC, dI)) (ci := 5) (v := .ref (b 21)) (C := RX4) (T := TX4) (N := 29) hx hb hts hinX4 hown hK hP 0 rfl rfl 21 (by decide) (hts (.fieldLink RX4 53 "RenameRowsModel" "age" "[I") (by decide +kernel)) (fun _ h9 => h9) rfl dX4_branch_58 ?_
        refine lv_iload_n hx hb dX4_branch_61 rfl (lv_at hl 0 rfl) ?_
        refine lv_aload_n hx hb dX4_branch_62 rfl (lv_at hl 1 rfl) ?_
        refine va_get (D := (dC, dI)) (ci := 5) (v := .int (nI (g 22))) (C := RX4) (T := TX4) (N := 29) hx hb hts hinX4 hown hK hP 0 rfl rfl 22 (by decide) (hts (.fieldLink RX4 143 "RenameRowsModel" "branches" "I") (by decide +kernel)) (fun _ h9 => h9) rfl dX4_branch_63 ?_
        refine ar_st (D := (dC, dI)) (n := 8) (f := h 21) hx hb hK hP hD hS 15 0 rfl rfl (by omega) (by omega) dX4_branch_66 (fun H locs hP hD hS => ?_)
        have hP : va_P (dC, dI) vwCl (wM cs b (un (un g 0 0) 23 ((g 23) + 1)) (uf (uf (uf h 19 (upd (h 19) t (nI 1))) 20 (upd (h 20) t (nI ((g 25) + (g 10))))) 21 (upd (h 21) t (nI (g 22))))) H := hP
        have hD : va_D A (wM cs b (un (un g 0 0) 23 ((g 23) + 1)) (uf (uf (uf h 19 (upd (h 19) t (nI 1))) 20 (upd (h 20) t (nI ((g 25) + (g 10))))) 21 (upd (h 21) t (nI (g 22))))) := hD
        refine lv_aload_n hx hb dX4_branch_67 rfl (lv_at hl 1 rfl) ?_
        refine lv_dup hx hb dX4_branch_68 rfl ?_
        refine va_get (D := (dC, dI)) (ci := 5) (v := .int (nI (g 22))) (C := RX4) (T := TX4) (N := 29) hx hb hts hinX4 hown hK hP 0 rfl rfl 22 (by decide) (hts (.fieldLink RX4 143 "RenameRowsModel" "branches" "I") (by decide +kernel)) (fun _ h9 => h9) rfl dX4_branch_69 ?_
        refine lv_iconst (v := nI 1) hx hb dX4_branch_72 (by decide) ?_
        refine lv_iadd hx hb dX4_branch_73 ?_
        refine tp_eq (nI_add (g 22) 1) ?_
        refine va_put (D := (dC, dI)) (ci := 5) (v := .int (nI ((g 22) + 1))) (ty := .int) (C := RX4) (T := TX4) (N := 29) hx hb hts hinX4 tyX4 tyX4_ok nmX4 hown hK hP hD hS 0 rfl rfl 22 (by decide) (hts (.fieldLink RX4 143 "RenameRowsModel" "branches" "I") (by decide +kernel)) (fun _ h9 => h9) rfl (by decide +kernel) rfl rfl (Nat.le_of_ble_eq_true rfl) dX4_branch_74 (fun H locs hP hD hS => ?_)
        have hP : va_P (dC, dI) vwCl (wM cs b (un (un (un g 0 0) 23 ((g 23) + 1)) 22 ((g 22) + 1)) (uf (uf (uf h 19 (upd (h 19) t (nI 1))) 20 (upd (h 20) t (nI ((g 25) + (g 10))))) 21 (upd (h 21) t (nI (g 22))))) H := hP
        have hD : va_D A (wM cs b (un (un (un g 0 0) 23 ((g 23) + 1)) 22 ((g 22) + 1)) (uf (uf (uf h 19 (upd (h 19) t (nI 1))) 20 (upd (h 20) t (nI ((g 25) + (g 10))))) 21 (upd (h 21) t (nI (g 22))))) := hD
        refine lv_iload_n hx hb dX4_branch_77 rfl (lv_at hl 0 rfl) ?_
        have hP : va_P (dC, dI) vwCl (wM cs b (m_loN g h) (m_loF g h)) H := by
          have e9 : (wM cs b (un (un (un g 0 0) 23 ((g 23) + 1)) 22 ((g 22) + 1)) (uf (uf (uf h 19 (upd (h 19) t (nI 1))) 20 (upd (h 20) t (nI ((g 25) + (g 10))))) 21 (upd (h 21) t (nI (g 22))))) = (wM cs b (m_loN g h) (m_loF g h)) := by first | (have e7 : m_lo h = nI t := (by rw [hs]; simp [m_lw, c_3]); simp [m_loN, m_loF, e7, nI_m1 (show t < 2 ^ 31 by omega), cl32_nI (show t < 2 ^ 31 by omega)]; done) | (have e7 : m_lo h = -1 := (by rw [hs]; rfl); simp [m_loN, m_loF, e7]; done)
          rw [← e9]; exact hP
        refine tp_eq (show _ = m_lo h by first | (have e7 : m_lo h = nI t := (by rw [hs]; simp [m_lw, c_3]); simp [m_loN, m_loF, e7, nI_m1 (show t < 2 ^ 31 by omega), cl32_nI (show t < 2 ^ 31 by omega)]; done) | (have e7 : m_lo h = -1 := (by rw [hs]; rfl); simp [m_loN, m_loF, e7]; done)) ?_
        exact wr_iret hx hb hr hlocks hP hS dX4_branch_78
      · refine lv_goto (tgt := 79) hx hb dX4_branch_22 (by decide) ?_
        refine lv_iinc (v := nI (t + 1)) (lv' := [(1, .int (nI (t + 1))), (0, .ref (b 0))]) hx hb dX4_branch_79 hl (k := 0) rfl (nI_succ t).symm (by decide) rfl (fun ls hl => ?_)
        refine lv_goto (tgt := 7) hx hb dX4_branch_82 (by decide) ?_
        exact ih (t + 1) (by omega) (by rw [hs]; simp [m_lw, c_3]) H locs hP hD hS ls (lv_sub hl [0, 1] rfl)
  exact key 8 0 (by omega) rfl _ _ hP hD hS ls (lv_sub hl [0, 1] rfl)
