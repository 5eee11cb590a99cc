def m_cur (g : Nat → Nat) (h : Nat → Nat → Int32) (x : Int32) : Int32 := if inB x (g 1) = true then h 4 (cl32 x) else -1

set_option maxHeartbeats 4000000 in
set_option maxRecDepth 100000 in
theorem c_X4_dispatch_x (l : Launch) (dC : Nat → ClassId) (dI : Nat → Nat → Nat) (cs : ClassId × ClassId) (b g : Nat → Nat) (h : Nat → Nat → Int32) (sz : Nat) (da : Int32) (db : Int32) (dt : Int32) (hbad : ((decide (da = -1) || inB da (g 1)) && ((decide (db = -1) || inB db (g 1)) && (decide (dt = -1) || inB dt (g 1)))) = false) (hB : m_bd g)  : Met l yX4_dispatch wsX4_dispatch ({ frames := 1, cells := 0, slots := 0, locals := 23 }) (wrPc (dC, dI) vwCl (wM cs b g h) (tyl cs) sz [.ref (b 0), .int da, .int db, .int dt]) (wrQ (dC, dI) vwCl (wM cs b (un g 0 1) h) (some (.int (nI 0))) (va_A (wM cs b g h) sz)) 0 0 (va_A (wM cs b g h) sz) := by
  refine wr_of (cc := cX4_dispatch) (maxL := 8) (ret := (some .int)) (own := RX4) (by decide) rfl rfl (Nat.le_of_ble_eq_true rfl) ?_
  intro p e s m below meth c A hsz hAe hx hb hr hml hts hown hlocks hP hK hD hA hS ls hl
  have hl : lv_has ls 8 [(0, .ref (b 0)), (1, .int da), (2, .int db), (3, .int dt)] := hl
  obtain ⟨M1, M2, M3, M4, M5, M6, M7, M8, M9, M10, M11, M12, M13, M14, M15, M16⟩ := id hB
  refine lv_iload_n hx hb dX4_dispatch_0 rfl (lv_at hl 1 rfl) ?_
  refine lv_iconst (v := (-1)) hx hb dX4_dispatch_1 (by decide) ?_
  refine lv_icmp_eq (tgt := 13) hx hb dX4_dispatch_2 (by decide) (fun c_1 => ?_) (fun c_1 => ?_)
  · subst c_1
    refine lv_iload_n hx hb dX4_dispatch_13 rfl (lv_at hl 2 rfl) ?_
    refine lv_iconst (v := (-1)) hx hb dX4_dispatch_14 (by decide) ?_
    refine lv_icmp_eq (tgt := 26) hx hb dX4_dispatch_15 (by decide) (fun c_2 => ?_) (fun c_2 => ?_)
    · subst c_2
      refine lv_iload_n hx hb dX4_dispatch_26 rfl (lv_at hl 3 rfl) ?_
      refine lv_iconst (v := (-1)) hx hb dX4_dispatch_27 (by decide) ?_
      refine lv_icmp_eq (tgt := 43) hx hb dX4_dispatch_28 (by decide) (fun c_3 => ?_) (fun c_3 => ?_)
      · subst c_3
        exfalso; revert hbad; simp [inB_m1]
      · refine lv_aload_n hx hb dX4_dispatch_31 rfl (lv_at hl 0 rfl) ?_
        refine lv_iload_n hx hb dX4_dispatch_32 rfl (lv_at hl 3 rfl) ?_
        refine W.callR (W.runV (As := [.int dt]) (rest := []) ⟨hx, hb, hml, hown, hts⟩ (c_X4_isRegister l dC dI cs b g h dt hB) (cwV 1 hts gX4_dispatch_X4_isRegister rfl rfl rfl (by decide +kernel) ⟨Nat.le_of_ble_eq_true rfl, Nat.le_of_ble_eq_true rfl⟩) (rd_preV (q := (RX4, TX4, 29)) hP hK 0 rfl rfl) rfl rfl hl.1 rfl (lv_room (Nat.le_of_ble_eq_true rfl)) dX4_dispatch_33 ⟨Nat.zero_le _, Nat.zero_le _⟩) ?_
        refine W.eq (g2 := F0 m 36 ls (.int (b2i (inB dt (g 1))) :: [])) rfl ?_
        refine lv_if_ne (tgt := 43) hx hb dX4_dispatch_36 (by decide) (fun c_4 => ?_) (fun c_4 => ?_)
        · have c_4 : inB dt (g 1) = true := b2i_t c_4
          obtain ⟨jdt, hjdt, rfl⟩ := inB_t c_4 (by omega)
          exfalso; revert hbad; simp [c_3, c_4, inB_m1]
        · have c_4 : inB dt (g 1) = false := b2i_f c_4
          refine lv_iconst (v := nI 1) hx hb dX4_dispatch_39 (by decide) ?_
          refine lv_goto (tgt := 44) hx hb dX4_dispatch_40 (by decide) ?_
          refine lv_istore (lv' := [(4, .int (nI 1)), (0, .ref (b 0)), (1, .int (-1)), (2, .int (-1)), (3, .int dt)]) hx hb dX4_dispatch_44 hl (by decide) rfl (fun ls hl => ?_)
          refine lv_aload_n hx hb dX4_dispatch_46 rfl (lv_at hl 1 rfl) ?_
          refine lv_iload hx hb dX4_dispatch_47 (lv_at hl 0 rfl) ?_
          refine lv_iconst (v := nI 0) hx hb dX4_dispatch_49 (by decide) ?_
          refine lv_iconst (v := nI 0) hx hb dX4_dispatch_50 (by decide) ?_
          refine wr_calli (va_runV (As := [.int (nI 1), .int (nI 0), .int (nI 0)]) (rest := []) ⟨hx, hb, hml, hown, hts⟩ (c_X4_throwing l dC dI cs b g h s.heap.size 1 0 0 hB (by decide) (by decide) (by decide)) (cwV 3 hts gX4_dispatch_X4_throwing rfl rfl rfl (by decide +kernel) ⟨Nat.le_of_ble_eq_true rfl, Nat.le_of_ble_eq_true rfl⟩) (wr_preV (q := (RX4, TX4, 29)) hP hK hD 0 rfl rfl) rfl rfl hl.1 rfl (lv_room (Nat.le_of_ble_eq_true rfl)) dX4_dispatch_51 ⟨Nat.zero_le _, Nat.zero_le _⟩) hS hD hA rfl (fun H locs hP hD hS => ?_)
          have hP : va_P (dC, dI) vwCl (wM cs b (un g 0 1) h) H := hP
          have hD : va_D A (wM cs b (un g 0 1) h) := hD
          refine W.eq (g2 := F0 m 54 ls (.int (nI 1) :: [])) rfl ?_
          have hB : m_bd (un g 0 1) := by (unfold m_bd un; simp; omega)
          refine lv_if_eq (tgt := 59) hx hb dX4_dispatch_54 (by decide) (fun c => absurd c (by decide)) (fun _ => ?_)
          refine lv_iconst (v := nI 0) hx hb dX4_dispatch_57 (by decide) ?_
          exact wr_iret hx hb hr hlocks hP hS dX4_dispatch_58
    · refine lv_aload_n hx hb dX4_dispatch_18 rfl (lv_at hl 0 rfl) ?_
      refine lv_iload_n hx hb dX4_dispatch_19 rfl (lv_at hl 2 rfl) ?_
      refine W.callR (W.runV (As := [.int db]) (rest := []) ⟨hx, hb, hml, hown, hts⟩ (c_X4_isRegister l dC dI cs b g h db hB) (cwV 1 hts gX4_dispatch_X4_isRegister rfl rfl rfl (by decide +kernel) ⟨Nat.le_of_ble_eq_true rfl, Nat.le_of_ble_eq_true rfl⟩) (rd_preV (q := (RX4, TX4, 29)) hP hK 0 rfl rfl) rfl rfl hl.1 rfl (lv_room (Nat.le_of_ble_eq_true rfl)) dX4_dispatch_20 ⟨Nat.zero_le _, Nat.zero_le _⟩) ?_
      refine W.eq (g2 := F0 m 23 ls (.int (b2i (inB db (g 1))) :: [])) rfl ?_
      refine lv_if_eq (tgt := 39) hx hb dX4_dispatch_23 (by decide) (fun c_6 => ?_) (fun c_6 => ?_)
      · have c_6 : inB db (g 1) = false := b2i_f c_6
        refine lv_iconst (v := nI 1) hx hb dX4_dispatch_39 (by decide) ?_
        refine lv_goto (tgt := 44) hx hb dX4_dispatch_40 (by decide) ?_
        refine lv_istore (lv' := [(4, .int (nI 1)), (0, .ref (b 0)), (1, .int (-1)), (2, .int db), (3, .int dt)]) hx hb dX4_dispatch_44 hl (by decide) rfl (fun ls hl => ?_)
        refine lv_aload_n hx hb dX4_dispatch_46 rfl (lv_at hl 1 rfl) ?_
        refine lv_iload hx hb dX4_dispatch_47 (lv_at hl 0 rfl) ?_
        refine lv_iconst (v := nI 0) hx hb dX4_dispatch_49 (by decide) ?_
        refine lv_iconst (v := nI 0) hx hb dX4_dispatch_50 (by decide) ?_
        refine wr_calli (va_runV (As := [.int (nI 1), .int (nI 0), .int (nI 0)]) (rest := []) ⟨hx, hb, hml, hown, hts⟩ (c_X4_throwing l dC dI cs b g h s.heap.size 1 0 0 hB (by decide) (by decide) (by decide)) (cwV 3 hts gX4_dispatch_X4_throwing rfl rfl rfl (by decide +kernel) ⟨Nat.le_of_ble_eq_true rfl, Nat.le_of_ble_eq_true rfl⟩) (wr_preV (q := (RX4, TX4, 29)) hP hK hD 0 rfl rfl) rfl rfl hl.1 rfl (lv_room (Nat.le_of_ble_eq_true rfl)) dX4_dispatch_51 ⟨Nat.zero_le _, Nat.zero_le _⟩) hS hD hA rfl (fun H locs hP hD hS => ?_)
        have hP : va_P (dC, dI) vwCl (wM cs b (un g 0 1) h) H := hP
        have hD : va_D A (wM cs b (un g 0 1) h) := hD
        refine W.eq (g2 := F0 m 54 ls (.int (nI 1) :: [])) rfl ?_
        have hB : m_bd (un g 0 1) := by (unfold m_bd un; simp; omega)
        refine lv_if_eq (tgt := 59) hx hb dX4_dispatch_54 (by decide) (fun c => absurd c (by decide)) (fun _ => ?_)
        refine lv_iconst (v := nI 0) hx hb dX4_dispatch_57 (by decide) ?_
        exact wr_iret hx hb hr hlocks hP hS dX4_dispatch_58
      · have c_6 : inB db (g 1) = true := b2i_t c_6
        obtain ⟨jdb, hjdb, rfl⟩ := inB_t c_6 (by omega)
        refine lv_iload_n hx hb dX4_dispatch_26 rfl (lv_at hl 3 rfl) ?_
        refine lv_iconst (v := (-1)) hx hb dX4_dispatch_27 (by decide) ?_
        refine lv_icmp_eq (tgt := 43) hx hb dX4_dispatch_28 (by decide) (fun c_8 => ?_) (fun c_8 => ?_)
        · subst c_8
          exfalso; revert hbad; simp [c_2, c_6, inB_m1]
        · refine lv_aload_n hx hb dX4_dispatch_31 rfl (lv_at hl 0 rfl) ?_
          refine lv_iload_n hx hb dX4_dispatch_32 rfl (lv_at hl 3 rfl) ?_
          refine W.callR (W.runV (As := [.int dt]) (rest := []) ⟨hx, hb, hml, hown, hts⟩ (c_X4_isRegister l dC dI cs b g h dt hB) (cwV 1 hts gX4_dispatch_X4_isRegister rfl rfl rfl (by decide +kernel) ⟨Nat.le_of_ble_eq_true rfl, Nat.le_of_ble_eq_true rfl⟩) (rd_preV (q := (RX4, TX4, 29)) hP hK 0 rfl rfl) rfl rfl hl.1 rfl (lv_room (Nat.le_of_ble_eq_true rfl)) dX4_dispatch_33 ⟨Nat.zero_le _, Nat.zero_le _⟩) ?_
          refine W.eq (g2 := F0 m 36 ls (.int (b2i (inB dt (g 1))) :: [])) rfl ?_
          refine lv_if_ne (tgt := 43) hx hb dX4_dispatch_36 (by decide) (fun c_9 => ?_) (fun c_9 => ?_)
          · have c_9 : inB dt (g 1) = true := b2i_t c_9
            obtain ⟨jdt, hjdt, rfl⟩ := inB_t c_9 (by omega)
            exfalso; revert hbad; simp [c_2, c_6, c_8, c_9, inB_m1]
          · have c_9 : inB dt (g 1) = false := b2i_f c_9
            refine lv_iconst (v := nI 1) hx hb dX4_dispatch_39 (by decide) ?_
            refine lv_goto (tgt := 44) hx hb dX4_dispatch_40 (by decide) ?_
            refine lv_istore (lv' := [(4, .int (nI 1)), (0, .ref (b 0)), (1, .int (-1)), (2, .int (nI jdb)), (3, .int dt)]) hx hb dX4_dispatch_44 hl (by decide) rfl (fun ls hl => ?_)
            refine lv_aload_n hx hb dX4_dispatch_46 rfl (lv_at hl 1 rfl) ?_
            refine lv_iload hx hb dX4_dispatch_47 (lv_at hl 0 rfl) ?_
            refine lv_iconst (v := nI 0) hx hb dX4_dispatch_49 (by decide) ?_
            refine lv_iconst (v := nI 0) hx hb dX4_dispatch_50 (by decide) ?_
            refine wr_calli (va_runV (As := [.int (nI 1), .int (nI 0), .int (nI 0)]) (rest := []) ⟨hx, hb, hml, hown, hts⟩ (c_X4_throwing l dC dI cs b g h s.heap.size 1 0 0 hB (by decide) (by decide) (by decide)) (cwV 3 hts gX4_dispatch_X4_throwing rfl rfl rfl (by decide +kernel) ⟨Nat.le_of_ble_eq_true rfl, Nat.le_of_ble_eq_true rfl⟩) (wr_preV (q := (RX4, TX4, 29)) hP hK hD 0 rfl rfl) rfl rfl hl.1 rfl (lv_room (Nat.le_of_ble_eq_true rfl)) dX4_dispatch_51 ⟨Nat.zero_le _, Nat.zero_le _⟩) hS hD hA rfl (fun H locs hP hD hS => ?_)
            have hP : va_P (dC, dI) vwCl (wM cs b (un g 0 1) h) H := hP
            have hD : va_D A (wM cs b (un g 0 1) h) := hD
            refine W.eq (g2 := F0 m 54 ls (.int (nI 1) :: [])) rfl ?_
            have hB : m_bd (un g 0 1) := by (unfold m_bd un; simp; omega)
            refine lv_if_eq (tgt := 59) hx hb dX4_dispatch_54 (by decide) (fun c => absurd c (by decide)) (fun _ => ?_)
            refine lv_iconst (v := nI 0) hx hb dX4_dispatch_57 (by decide) ?_
            exact wr_iret hx hb hr hlocks hP hS dX4_dispatch_58
  · refine lv_aload_n hx hb dX4_dispatch_5 rfl (lv_at hl 0 rfl) ?_
    refine lv_iload_n hx hb dX4_dispatch_6 rfl (lv_at hl 1 rfl) ?_
    refine W.callR (W.runV (As := [.int da]) (rest := []) ⟨hx, hb, hml, hown, hts⟩ (c_X4_isRegister l dC dI cs b g h da hB) (cwV 1 hts gX4_dispatch_X4_isRegister rfl rfl rfl (by decide +kernel) ⟨Nat.le_of_ble_eq_true rfl, Nat.le_of_ble_eq_true rfl⟩) (rd_preV (q := (RX4, TX4, 29)) hP hK 0 rfl rfl) rfl rfl hl.1 rfl (lv_room (Nat.le_of_ble_eq_true rfl)) dX4_dispatch_7 ⟨Nat.zero_le _, Nat.zero_le _⟩) ?_
    refine W.eq (g2 := F0 m 10 ls (.int (b2i (inB da (g 1))) :: [])) rfl ?_
    refine lv_if_eq (tgt := 39) hx hb dX4_dispatch_10 (by decide) (fun c_11 => ?_) (fun c_11 => ?_)
    · have c_11 : inB da (g 1) = false := b2i_f c_11
      refine lv_iconst (v := nI 1) hx hb dX4_dispatch_39 (by decide) ?_
      refine lv_goto (tgt := 44) hx hb dX4_dispatch_40 (by decide) ?_
      refine lv_istore (lv' := [(4, .int (nI 1)), (0, .ref (b 0)), (1, .int da), (2, .int db), (3, .int dt)]) hx hb dX4_dispatch_44 hl (by decide) rfl (fun ls hl => ?_)
      refine lv_aload_n hx hb dX4_dispatch_46 rfl (lv_at hl 1 rfl) ?_
      refine lv_iload hx hb dX4_dispatch_47 (lv_at hl 0 rfl) ?_
      refine lv_iconst (v := nI 0) hx hb dX4_dispatch_49 (by decide) ?_
      refine lv_iconst (v := nI 0) hx hb dX4_dispatch_50 (by decide) ?_
      refine wr_calli (va_runV (As := [.int (nI 1), .int (nI 0), .int (nI 0)]) (rest := []) ⟨hx, hb, hml, hown, hts⟩ (c_X4_throwing l dC dI cs b g h s.heap.size 1 0 0 hB (by decide) (by decide) (by decide)) (cwV 3 hts gX4_dispatch_X4_throwing rfl rfl rfl (by decide +kernel) ⟨Nat.le_of_ble_eq_true rfl, Nat.le_of_ble_eq_true rfl⟩) (wr_preV (q := (RX4, TX4, 29)) hP hK hD 0 rfl rfl) rfl rfl hl.1 rfl (lv_room (Nat.le_of_ble_eq_true rfl)) dX4_dispatch_51 ⟨Nat.zero_le _, Nat.zero_le _⟩) hS hD hA rfl (fun H locs hP hD hS => ?_)
      have hP : va_P (dC, dI) vwCl (wM cs b (un g 0 1) h) H := hP
      have hD : va_D A (wM cs b (un g 0 1) h) := hD
      refine W.eq (g2 := F0 m 54 ls (.int (nI 1) :: [])) rfl ?_
      have hB : m_bd (un g 0 1) := by (unfold m_bd un; simp; omega)
      refine lv_if_eq (tgt := 59) hx hb dX4_dispatch_54 (by decide) (fun c => absurd c (by decide)) (fun _ => ?_)
      refine lv_iconst (v := nI 0) hx hb dX4_dispatch_57 (by decide) ?_
      exact wr_iret hx hb hr hlocks hP hS dX4_dispatch_58
    · have c_11 : inB da (g 1) = true := b2i_t c_11
      obtain ⟨jda, hjda, rfl⟩ := inB_t c_11 (by omega)
      refine lv_iload_n hx hb dX4_dispatch_13 rfl (lv_at hl 2 rfl) ?_
      refine lv_iconst (v := (-1)) hx hb dX4_dispatch_14 (by decide) ?_
      refine lv_icmp_eq (tgt := 26) hx hb dX4_dispatch_15 (by decide) (fun c_13 => ?_) (fun c_13 => ?_)
      · subst c_13
        refine lv_iload_n hx hb dX4_dispatch_26 rfl (lv_at hl 3 rfl) ?_
        refine lv_iconst (v := (-1)) hx hb dX4_dispatch_27 (by decide) ?_
        refine lv_icmp_eq (tgt := 43) hx hb dX4_dispatch_28 (by decide) (fun c_14 => ?_) (fun c_14 => ?_)
        · subst c_14
          exfalso; revert hbad; simp [c_1, c_11, inB_m1]
        · refine lv_aload_n hx hb dX4_dispatch_31 rfl (lv_at hl 0 rfl) ?_
          refine lv_iload_n hx hb dX4_dispatch_32 rfl (lv_at hl 3 rfl) ?_
          refine W.callR (W.runV (As := [.int dt]) (rest := []) ⟨hx, hb, hml, hown, hts⟩ (c_X4_isRegister l dC dI cs b g h dt hB) (cwV 1 hts gX4_dispatch_X4_isRegister rfl rfl rfl (by decide +kernel) ⟨Nat.le_of_ble_eq_true rfl, Nat.le_of_ble_eq_true rfl⟩) (rd_preV (q := (RX4, TX4, 29)) hP hK 0 rfl rfl) rfl rfl hl.1 rfl (lv_room (Nat.le_of_ble_eq_true rfl)) dX4_dispatch_33 ⟨Nat.zero_le _, Nat.zero_le _⟩) ?_
          refine W.eq (g2 := F0 m 36 ls (.int (b2i (inB dt (g 1))) :: [])) rfl ?_
          refine lv_if_ne (tgt := 43) hx hb dX4_dispatch_36 (by decide) (fun c_15 => ?_) (fun c_15 => ?_)
          · have c_15 : inB dt (g 1) = true := b2i_t c_15
            obtain ⟨jdt, hjdt, rfl⟩ := inB_t c_15 (by omega)
            exfalso; revert hbad; simp [c_1, c_11, c_14, c_15, inB_m1]
          · have c_15 : inB dt (g 1) = false := b2i_f c_15
            refine lv_iconst (v := nI 1) hx hb dX4_dispatch_39 (by decide) ?_
            refine lv_goto (tgt := 44) hx hb dX4_dispatch_40 (by decide) ?_
            refine lv_istore (lv' := [(4, .int (nI 1)), (0, .ref (b 0)), (1, .int (nI jda)), (2, .int (-1)), (3, .int dt)]) hx hb dX4_dispatch_44 hl (by decide) rfl (fun ls hl => ?_)
            refine lv_aload_n hx hb dX4_dispatch_46 rfl (lv_at hl 1 rfl) ?_
            refine lv_iload hx hb dX4_dispatch_47 (lv_at hl 0 rfl) ?_
            refine lv_iconst (v := nI 0) hx hb dX4_dispatch_49 (by decide) ?_
            refine lv_iconst (v := nI 0) hx hb dX4_dispatch_50 (by decide) ?_
            refine wr_calli (va_runV (As := [.int (nI 1), .int (nI 0), .int (nI 0)]) (rest := []) ⟨hx, hb, hml, hown, hts⟩ (c_X4_throwing l dC dI cs b g h s.heap.size 1 0 0 hB (by decide) (by decide) (by decide)) (cwV 3 hts gX4_dispatch_X4_throwing rfl rfl rfl (by decide +kernel) ⟨Nat.le_of_ble_eq_true rfl, Nat.le_of_ble_eq_true rfl⟩) (wr_preV (q := (RX4, TX4, 29)) hP hK hD 0 rfl rfl) rfl rfl hl.1 rfl (lv_room (Nat.le_of_ble_eq_true rfl)) dX4_dispatch_51 ⟨Nat.zero_le _, Nat.zero_le _⟩) hS hD hA rfl (fun H locs hP hD hS => ?_)
            have hP : va_P (dC, dI) vwCl (wM cs b (un g 0 1) h) H := hP
            have hD : va_D A (wM cs b (un g 0 1) h) := hD
            refine W.eq (g2 := F0 m 54 ls (.int (nI 1) :: [])) rfl ?_
            have hB : m_bd (un g 0 1) := by (unfold m_bd un; simp; omega)
            refine lv_if_eq (tgt := 59) hx hb dX4_dispatch_54 (by decide) (fun c => absurd c (by decide)) (fun _ => ?_)
            refine lv_iconst (v := nI 0) hx hb dX4_dispatch_57 (by decide) ?_
            exact wr_iret hx hb hr hlocks hP hS dX4_dispatch_58
      · refine lv_aload_n hx hb dX4_dispatch_18 rfl (lv_at hl 0 rfl) ?_
        refine lv_iload_n hx hb dX4_dispatch_19 rfl (lv_at hl 2 rfl) ?_
        refine W.callR (W.runV (As := [.int db]) (rest := []) ⟨hx, hb, hml, hown, hts⟩ (c_X4_isRegister l dC dI cs b g h db hB) (cwV 1 hts gX4_dispatch_X4_isRegister rfl rfl rfl (by decide +kernel) ⟨Nat.le_of_ble_eq_true rfl, Nat.le_of_ble_eq_true rfl⟩) (rd_preV (q := (RX4, TX4, 29)) hP hK 0 rfl rfl) rfl rfl hl.1 rfl (lv_room (Nat.le_of_ble_eq_true rfl)) dX4_dispatch_20 ⟨Nat.zero_le _, Nat.zero_le _⟩) ?_
        refine W.eq (g2 := F0 m 23 ls (.int (b2i (inB db (g 1))) :: [])) rfl ?_
        refine lv_if_eq (tgt := 39) hx hb dX4_dispatch_23 (by decide) (fun c_17 => ?_) (fun c_17 => ?_)
        · have c_17 : inB db (g 1) = false := b2i_f c_17
          refine lv_iconst (v := nI 1) hx hb dX4_dispatch_39 (by decide) ?_
          refine lv_goto (tgt := 44) hx hb dX4_dispatch_40 (by decide) ?_
          refine lv_istore (lv' := [(4, .int (nI 1)), (0, .ref (b 0)), (1, .int (nI jda)), (2, .int db), (3, .int dt)]) hx hb dX4_dispatch_44 hl (by decide) rfl (fun ls hl => ?_)
          refine lv_aload_n hx hb dX4_dispatch_46 rfl (lv_at hl 1 rfl) ?_
          refine lv_iload hx hb dX4_dispatch_47 (lv_at hl 0 rfl) ?_
          refine lv_iconst (v := nI 0) hx hb dX4_dispatch_49 (by decide) ?_
          refine lv_iconst (v := nI 0) hx hb dX4_dispatch_50 (by decide) ?_
          refine wr_calli (va_runV (As := [.int (nI 1), .int (nI 0), .int (nI 0)]) (rest := []) ⟨hx, hb, hml, hown, hts⟩ (c_X4_throwing l dC dI cs b g h s.heap.size 1 0 0 hB (by decide) (by decide) (by decide)) (cwV 3 hts gX4_dispatch_X4_throwing rfl rfl rfl (by decide +kernel) ⟨Nat.le_of_ble_eq_true rfl, Nat.le_of_ble_eq_true rfl⟩) (wr_preV (q := (RX4, TX4, 29)) hP hK hD 0 rfl rfl) rfl rfl hl.1 rfl (lv_room (Nat.le_of_ble_eq_true rfl)) dX4_dispatch_51 ⟨Nat.zero_le _, Nat.zero_le _⟩) hS hD hA rfl (fun H locs hP hD hS => ?_)
          have hP : va_P (dC, dI) vwCl (wM cs b (un g 0 1) h) H := hP
          have hD : va_D A (wM cs b (un g 0 1) h) := hD
          refine W.eq (g2 := F0 m 54 ls (.int (nI 1) :: [])) rfl ?_
          have hB : m_bd (un g 0 1) := by (unfold m_bd un; simp; omega)
          refine lv_if_eq (tgt := 59) hx hb dX4_dispatch_54 (by decide) (fun c => absurd c (by decide)) (fun _ => ?_)
          refine lv_iconst (v := nI 0) hx hb dX4_dispatch_57 (by decide) ?_
          exact wr_iret hx hb hr hlocks hP hS dX4_dispatch_58
        · have c_17 : inB db (g 1) = true := b2i_t c_17
          obtain ⟨jdb, hjdb, rfl⟩ := inB_t c_17 (by omega)
          refine lv_iload_n hx hb dX4_dispatch_26 rfl (lv_at hl 3 rfl) ?_
          refine lv_iconst (v := (-1)) hx hb dX4_dispatch_27 (by decide) ?_
          refine lv_icmp_eq (tgt := 43) hx hb dX4_dispatch_28 (by decide) (fun c_19 => ?_) (fun c_19 => ?_)
          · subst c_19
            exfalso; revert hbad; simp [c_1, c_11, c_13, c_17, inB_m1]
          · refine lv_aload_n hx hb dX4_dispatch_31 rfl (lv_at hl 0 rfl) ?_
            refine lv_iload_n hx hb dX4_dispatch_32 rfl (lv_at hl 3 rfl) ?_
            refine W.callR (W.runV (As := [.int dt]) (rest := []) ⟨hx, hb, hml, hown, hts⟩ (c_X4_isRegister l dC dI cs b g h dt hB) (cwV 1 hts gX4_dispatch_X4_isRegister rfl rfl rfl (by decide +kernel) ⟨Nat.le_of_ble_eq_true rfl, Nat.le_of_ble_eq_true rfl⟩) (rd_preV (q := (RX4, TX4, 29)) hP hK 0 rfl rfl) rfl rfl hl.1 rfl (lv_room (Nat.le_of_ble_eq_true rfl)) dX4_dispatch_33 ⟨Nat.zero_le _, Nat.zero_le _⟩) ?_
            refine W.eq (g2 := F0 m 36 ls (.int (b2i (inB dt (g 1))) :: [])) rfl ?_
            refine lv_if_ne (tgt := 43) hx hb dX4_dispatch_36 (by decide) (fun c_20 => ?_) (fun c_20 => ?_)
            · have c_20 : inB dt (g 1) = true := b2i_t c_20
              obtain ⟨jdt, hjdt, rfl⟩ := inB_t c_20 (by omega)
              exfalso; revert hbad; simp [c_1, c_11, c_13, c_17, c_19, c_20, inB_m1]
            · have c_20 : inB dt (g 1) = false := b2i_f c_20
              refine lv_iconst (v := nI 1) hx hb dX4_dispatch_39 (by decide) ?_
              refine lv_goto (tgt := 44) hx hb dX4_dispatch_40 (by decide) ?_
              refine lv_istore (lv' := [(4, .int (nI 1)), (0, .ref (b 0)), (1, .int (nI jda)), (2, .int (nI jdb)), (3, .int dt)]) hx hb dX4_dispatch_44 hl (by decide) rfl (fun ls hl => ?_)
              refine lv_aload_n hx hb dX4_dispatch_46 rfl (lv_at hl 1 rfl) ?_
              refine lv_iload hx hb dX4_dispatch_47 (lv_at hl 0 rfl) ?_
              refine lv_iconst (v := nI 0) hx hb dX4_dispatch_49 (by decide) ?_
              refine lv_iconst (v := nI 0) hx hb dX4_dispatch_50 (by decide) ?_
              refine wr_calli (va_runV (As := [.int (nI 1), .int (nI 0), .int (nI 0)]) (rest := []) ⟨hx, hb, hml, hown, hts⟩ (c_X4_throwing l dC dI cs b g h s.heap.size 1 0 0 hB (by decide) (by decide) (by decide)) (cwV 3 hts gX4_dispatch_X4_throwing rfl rfl rfl (by decide +kernel) ⟨Nat.le_of_ble_eq_true rfl, Nat.le_of_ble_eq_true rfl⟩) (wr_preV (q := (RX4, TX4, 29)) hP hK hD 0 rfl rfl) rfl rfl hl.1 rfl (lv_room (Nat.le_of_ble_eq_true rfl)) dX4_dispatch_51 ⟨Nat.zero_le _, Nat.zero_le _⟩) hS hD hA rfl (fun H locs hP hD hS => ?_)
              have hP : va_P (dC, dI) vwCl (wM cs b (un g 0 1) h) H := hP
              have hD : va_D A (wM cs b (un g 0 1) h) := hD
              refine W.eq (g2 := F0 m 54 ls (.int (nI 1) :: [])) rfl ?_
              have hB : m_bd (un g 0 1) := by (unfold m_bd un; simp; omega)
              refine lv_if_eq (tgt := 59) hx hb dX4_dispatch_54 (by decide) (fun c => absurd c (by decide)) (fun _ => ?_)
              refine lv_iconst (v := nI 0) hx hb dX4_dispatch_57 (by decide) ?_
              exact wr_iret hx hb hr hlocks hP hS dX4_dispatch_58

set_option maxHeartbeats 4000000 in
set_option maxRecDepth 100000 in
theorem c_X4_dispatch_full (l : Launch) (dC : Nat → ClassId) (dI : Nat → Nat → Nat) (cs : ClassId × ClassId) (b g : Nat → Nat) (h : Nat → Nat → Int32) (sz : Nat) (da : Int32) (db : Int32) (dt : Int32) (v1 : (decide (da = -1) || inB da (g 1)) = true) (v2 : (decide (db = -1) || inB db (g 1)) = true) (v3 : (decide (dt = -1) || inB dt (g 1)) = true) (hB : m_bd g) (h1 : g 10 = g 3)  : Met l yX4_dispatch wsX4_dispatch ({ frames := 1, cells := 0, slots := 0, locals := 23 }) (wrPc (dC, dI) vwCl (wM cs b g h) (tyl cs) sz [.ref (b 0), .int da, .int db, .int dt]) (wrQ (dC, dI) vwCl (wM cs b (un (un g 0 0) 27 ((g 27) + 1)) h) (some (.int (-1))) (va_A (wM cs b g h) sz)) 0 0 (va_A (wM cs b g h) sz) := by
  refine wr_of (cc := cX4_dispatch) (maxL := 8) (ret := (some .int)) (own := RX4) (by decide) rfl rfl (Nat.le_of_ble_eq_true rfl) ?_
  intro p e s m below meth c A hsz hAe hx hb hr hml hts hown hlocks hP hK hD hA hS ls hl
  have hl : lv_has ls 8 [(0, .ref (b 0)), (1, .int da), (2, .int db), (3, .int dt)] := hl
  have hinX4 : ∀ w ∈ wsX40, w ∈ wsX4_dispatch := by decide +kernel
  obtain ⟨M1, M2, M3, M4, M5, M6, M7, M8, M9, M10, M11, M12, M13, M14, M15, M16⟩ := id hB
  refine lv_iload_n hx hb dX4_dispatch_0 rfl (lv_at hl 1 rfl) ?_
  refine lv_iconst (v := (-1)) hx hb dX4_dispatch_1 (by decide) ?_
  refine lv_icmp_eq (tgt := 13) hx hb dX4_dispatch_2 (by decide) (fun c_1 => ?_) (fun c_1 => ?_)
  · subst c_1
    refine lv_iload_n hx hb dX4_dispatch_13 rfl (lv_at hl 2 rfl) ?_
    refine lv_iconst (v := (-1)) hx hb dX4_dispatch_14 (by decide) ?_
    refine lv_icmp_eq (tgt := 26) hx hb dX4_dispatch_15 (by decide) (fun c_2 => ?_) (fun c_2 => ?_)
    · subst c_2
      refine lv_iload_n hx hb dX4_dispatch_26 rfl (lv_at hl 3 rfl) ?_
      refine lv_iconst (v := (-1)) hx hb dX4_dispatch_27 (by decide) ?_
      refine lv_icmp_eq (tgt := 43) hx hb dX4_dispatch_28 (by decide) (fun c_3 => ?_) (fun c_3 => ?_)
      · subst c_3
        refine lv_iconst (v := nI 0) hx hb dX4_dispatch_43 (by decide) ?_
        refine lv_istore (lv' := [(4, .int (nI 0)), (0, .ref (b 0)), (1, .int (-1)), (2, .int (-1)), (3, .int (-1))]) hx hb dX4_dispatch_44 hl (by decide) rfl (fun ls hl => ?_)
        refine lv_aload_n hx hb dX4_dispatch_46 rfl (lv_at hl 1 rfl) ?_
        refine lv_iload hx hb dX4_dispatch_47 (lv_at hl 0 rfl) ?_
        refine lv_iconst (v := nI 0) hx hb dX4_dispatch_49 (by decide) ?_
        refine lv_iconst (v := nI 0) hx hb dX4_dispatch_50 (by decide) ?_
        refine wr_calli (va_runV (As := [.int (nI 0), .int (nI 0), .int (nI 0)]) (rest := []) ⟨hx, hb, hml, hown, hts⟩ (c_X4_throwing l dC dI cs b g h s.heap.size 0 0 0 hB (by decide) (by decide) (by decide)) (cwV 3 hts gX4_dispatch_X4_throwing rfl rfl rfl (by decide +kernel) ⟨Nat.le_of_ble_eq_true rfl, Nat.le_of_ble_eq_true rfl⟩) (wr_preV (q := (RX4, TX4, 29)) hP hK hD 0 rfl rfl) rfl rfl hl.1 rfl (lv_room (Nat.le_of_ble_eq_true rfl)) dX4_dispatch_51 ⟨Nat.zero_le _, Nat.zero_le _⟩) hS hD hA rfl (fun H locs hP hD hS => ?_)
        have hP : va_P (dC, dI) vwCl (wM cs b (un g 0 0) h) H := hP
        have hD : va_D A (wM cs b (un g 0 0) h) := hD
        refine W.eq (g2 := F0 m 54 ls (.int (nI 0) :: [])) rfl ?_
        have hB : m_bd (un g 0 0) := by (unfold m_bd un; simp; omega)
        refine lv_if_eq (tgt := 59) hx hb dX4_dispatch_54 (by decide) (fun _ => ?_) (fun c => absurd (by decide) c)
        refine lv_aload_n hx hb dX4_dispatch_59 rfl (lv_at hl 1 rfl) ?_
        refine va_get (D := (dC, dI)) (ci := 5) (v := .int (nI (g 10))) (C := RX4) (T := TX4) (N := 29) hx hb hts hinX4 hown hK hP 0 rfl rfl 10 (by decide) (hts (.fieldLink RX4 86 "RenameRowsModel" "rows" "I") (by decide +kernel)) (fun _ h9 => h9) rfl dX4_dispatch_60 ?_
        refine lv_aload_n hx hb dX4_dispatch_63 rfl (lv_at hl 1 rfl) ?_
        refine va_get (D := (dC, dI)) (ci := 5) (v := .int (nI (g 3))) (C := RX4) (T := TX4) (N := 29) hx hb hts hinX4 hown hK hP 0 rfl rfl 3 (by decide) (hts (.fieldLink RX4 70 "RenameRowsModel" "places" "I") (by decide +kernel)) (fun _ h9 => h9) rfl dX4_dispatch_64 ?_
        refine lv_icmp_ne (tgt := 82) hx hb dX4_dispatch_67 (by decide) (fun c_5 => absurd ((nI_eq (by omega) (by omega)).mpr (by omega)) c_5) (fun c_5 => ?_)
        have c_5 : (g 10) = (g 3) := (nI_eq (by omega) (by omega)).mp c_5
        refine lv_aload_n hx hb dX4_dispatch_70 rfl (lv_at hl 1 rfl) ?_
        refine lv_dup hx hb dX4_dispatch_71 rfl ?_
        refine va_get (D := (dC, dI)) (ci := 5) (v := .int (nI (g 27))) (C := RX4) (T := TX4) (N := 29) hx hb hts hinX4 hown hK hP 0 rfl rfl 27 (by decide) (hts (.fieldLink RX4 100 "RenameRowsModel" "noPlace" "I") (by decide +kernel)) (fun _ h9 => h9) rfl dX4_dispatch_72 ?_
        refine lv_iconst (v := nI 1) hx hb dX4_dispatch_75 (by decide) ?_
        refine lv_iadd hx hb dX4_dispatch_76 ?_
        refine tp_eq (nI_add (g 27) 1) ?_
        refine va_put (D := (dC, dI)) (ci := 5) (v := .int (nI ((g 27) + 1))) (ty := .int) (C := RX4) (T := TX4) (N := 29) hx hb hts hinX4 tyX4 tyX4_ok nmX4 hown hK hP hD hS 0 rfl rfl 27 (by decide) (hts (.fieldLink RX4 100 "RenameRowsModel" "noPlace" "I") (by decide +kernel)) (fun _ h9 => h9) rfl (by decide +kernel) rfl rfl (Nat.le_of_ble_eq_true rfl) dX4_dispatch_77 (fun H locs hP hD hS => ?_)
        have hP : va_P (dC, dI) vwCl (wM cs b (un (un g 0 0) 27 ((g 27) + 1)) h) H := hP
        have hD : va_D A (wM cs b (un (un g 0 0) 27 ((g 27) + 1)) h) := hD
        refine lv_iconst (v := (-1)) hx hb dX4_dispatch_80 (by decide) ?_
        exact wr_iret hx hb hr hlocks hP hS dX4_dispatch_81
      · refine lv_aload_n hx hb dX4_dispatch_31 rfl (lv_at hl 0 rfl) ?_
        refine lv_iload_n hx hb dX4_dispatch_32 rfl (lv_at hl 3 rfl) ?_
        refine W.callR (W.runV (As := [.int dt]) (rest := []) ⟨hx, hb, hml, hown, hts⟩ (c_X4_isRegister l dC dI cs b g h dt hB) (cwV 1 hts gX4_dispatch_X4_isRegister rfl rfl rfl (by decide +kernel) ⟨Nat.le_of_ble_eq_true rfl, Nat.le_of_ble_eq_true rfl⟩) (rd_preV (q := (RX4, TX4, 29)) hP hK 0 rfl rfl) rfl rfl hl.1 rfl (lv_room (Nat.le_of_ble_eq_true rfl)) dX4_dispatch_33 ⟨Nat.zero_le _, Nat.zero_le _⟩) ?_
        refine W.eq (g2 := F0 m 36 ls (.int (b2i (inB dt (g 1))) :: [])) rfl ?_
        refine lv_if_ne (tgt := 43) hx hb dX4_dispatch_36 (by decide) (fun c_6 => ?_) (fun c_6 => ?_)
        · have c_6 : inB dt (g 1) = true := b2i_t c_6
          obtain ⟨jdt, hjdt, rfl⟩ := inB_t c_6 (by omega)
          refine lv_iconst (v := nI 0) hx hb dX4_dispatch_43 (by decide) ?_
          refine lv_istore (lv' := [(4, .int (nI 0)), (0, .ref (b 0)), (1, .int (-1)), (2, .int (-1)), (3, .int (nI jdt))]) hx hb dX4_dispatch_44 hl (by decide) rfl (fun ls hl => ?_)
          refine lv_aload_n hx hb dX4_dispatch_46 rfl (lv_at hl 1 rfl) ?_
          refine lv_iload hx hb dX4_dispatch_47 (lv_at hl 0 rfl) ?_
          refine lv_iconst (v := nI 0) hx hb dX4_dispatch_49 (by decide) ?_
          refine lv_iconst (v := nI 0) hx hb dX4_dispatch_50 (by decide) ?_
          refine wr_calli (va_runV (As := [.int (nI 0), .int (nI 0), .int (nI 0)]) (rest := []) ⟨hx, hb, hml, hown, hts⟩ (c_X4_throwing l dC dI cs b g h s.heap.size 0 0 0 hB (by decide) (by decide) (by decide)) (cwV 3 hts gX4_dispatch_X4_throwing rfl rfl rfl (by decide +kernel) ⟨Nat.le_of_ble_eq_true rfl, Nat.le_of_ble_eq_true rfl⟩) (wr_preV (q := (RX4, TX4, 29)) hP hK hD 0 rfl rfl) rfl rfl hl.1 rfl (lv_room (Nat.le_of_ble_eq_true rfl)) dX4_dispatch_51 ⟨Nat.zero_le _, Nat.zero_le _⟩) hS hD hA rfl (fun H locs hP hD hS => ?_)
          have hP : va_P (dC, dI) vwCl (wM cs b (un g 0 0) h) H := hP
          have hD : va_D A (wM cs b (un g 0 0) h) := hD
          refine W.eq (g2 := F0 m 54 ls (.int (nI 0) :: [])) rfl ?_
          have hB : m_bd (un g 0 0) := by (unfold m_bd un; simp; omega)
          refine lv_if_eq (tgt := 59) hx hb dX4_dispatch_54 (by decide) (fun _ => ?_) (fun c => absurd (by decide) c)
          refine lv_aload_n hx hb dX4_dispatch_59 rfl (lv_at hl 1 rfl) ?_
          refine va_get (D := (dC, dI)) (ci := 5) (v := .int (nI (g 10))) (C := RX4) (T := TX4) (N := 29) hx hb hts hinX4 hown hK hP 0 rfl rfl 10 (by decide) (hts (.fieldLink RX4 86 "RenameRowsModel" "rows" "I") (by decide +kernel)) (fun _ h9 => h9) rfl dX4_dispatch_60 ?_
          refine lv_aload_n hx hb dX4_dispatch_63 rfl (lv_at hl 1 rfl) ?_
          refine va_get (D := (dC, dI)) (ci := 5) (v := .int (nI (g 3))) (C := RX4) (T := TX4) (N := 29) hx hb hts hinX4 hown hK hP 0 rfl rfl 3 (by decide) (hts (.fieldLink RX4 70 "RenameRowsModel" "places" "I") (by decide +kernel)) (fun _ h9 => h9) rfl dX4_dispatch_64 ?_
          refine lv_icmp_ne (tgt := 82) hx hb dX4_dispatch_67 (by decide) (fun c_8 => absurd ((nI_eq (by omega) (by omega)).mpr (by omega)) c_8) (fun c_8 => ?_)
          have c_8 : (g 10) = (g 3) := (nI_eq (by omega) (by omega)).mp c_8
          refine lv_aload_n hx hb dX4_dispatch_70 rfl (lv_at hl 1 rfl) ?_
          refine lv_dup hx hb dX4_dispatch_71 rfl ?_
          refine va_get (D := (dC, dI)) (ci := 5) (v := .int (nI (g 27))) (C := RX4) (T := TX4) (N := 29) hx hb hts hinX4 hown hK hP 0 rfl rfl 27 (by decide) (hts (.fieldLink RX4 100 "RenameRowsModel" "noPlace" "I") (by decide +kernel)) (fun _ h9 => h9) rfl dX4_dispatch_72 ?_
          refine lv_iconst (v := nI 1) hx hb dX4_dispatch_75 (by decide) ?_
          refine lv_iadd hx hb dX4_dispatch_76 ?_
          refine tp_eq (nI_add (g 27) 1) ?_
          refine va_put (D := (dC, dI)) (ci := 5) (v := .int (nI ((g 27) + 1))) (ty := .int) (C := RX4) (T := TX4) (N := 29) hx hb hts hinX4 tyX4 tyX4_ok nmX4 hown hK hP hD hS 0 rfl rfl 27 (by decide) (hts (.fieldLink RX4 100 "RenameRowsModel" "noPlace" "I") (by decide +kernel)) (fun _ h9 => h9) rfl (by decide +kernel) rfl rfl (Nat.le_of_ble_eq_true rfl) dX4_dispatch_77 (fun H locs hP hD hS => ?_)
          have hP : va_P (dC, dI) vwCl (wM cs b (un (un g 0 0) 27 ((g 27) + 1)) h) H := hP
          have hD : va_D A (wM cs b (un (un g 0 0) 27 ((g 27) + 1)) h) := hD
          refine lv_iconst (v := (-1)) hx hb dX4_dispatch_80 (by decide) ?_
          exact wr_iret hx hb hr hlocks hP hS dX4_dispatch_81
        · have c_6 : inB dt (g 1) = false := b2i_f c_6
          exfalso; revert v1 v2 v3; simp [c_3, c_6, inB_m1]
    · refine lv_aload_n hx hb dX4_dispatch_18 rfl (lv_at hl 0 rfl) ?_
      refine lv_iload_n hx hb dX4_dispatch_19 rfl (lv_at hl 2 rfl) ?_
      refine W.callR (W.runV (As := [.int db]) (rest := []) ⟨hx, hb, hml, hown, hts⟩ (c_X4_isRegister l dC dI cs b g h db hB) (cwV 1 hts gX4_dispatch_X4_isRegister rfl rfl rfl (by decide +kernel) ⟨Nat.le_of_ble_eq_true rfl, Nat.le_of_ble_eq_true rfl⟩) (rd_preV (q := (RX4, TX4, 29)) hP hK 0 rfl rfl) rfl rfl hl.1 rfl (lv_room (Nat.le_of_ble_eq_true rfl)) dX4_dispatch_20 ⟨Nat.zero_le _, Nat.zero_le _⟩) ?_
      refine W.eq (g2 := F0 m 23 ls (.int (b2i (inB db (g 1))) :: [])) rfl ?_
      refine lv_if_eq (tgt := 39) hx hb dX4_dispatch_23 (by decide) (fun c_9 => ?_) (fun c_9 => ?_)
      · have c_9 : inB db (g 1) = false := b2i_f c_9
        exfalso; revert v1 v2 v3; simp [c_2, c_9, inB_m1]
      · have c_9 : inB db (g 1) = true := b2i_t c_9
        obtain ⟨jdb, hjdb, rfl⟩ := inB_t c_9 (by omega)
        refine lv_iload_n hx hb dX4_dispatch_26 rfl (lv_at hl 3 rfl) ?_
        refine lv_iconst (v := (-1)) hx hb dX4_dispatch_27 (by decide) ?_
        refine lv_icmp_eq (tgt := 43) hx hb dX4_dispatch_28 (by decide) (fun c_10 => ?_) (fun c_10 => ?_)
        · subst c_10
          refine lv_iconst (v := nI 0) hx hb dX4_dispatch_43 (by decide) ?_
          refine lv_istore (lv' := [(4, .int (nI 0)), (0, .ref (b 0)), (1, .int (-1)), (2, .int (nI jdb)), (3, .int (-1))]) hx hb dX4_dispatch_44 hl (by decide) rfl (fun ls hl => ?_)
          refine lv_aload_n hx hb dX4_dispatch_46 rfl (lv_at hl 1 rfl) ?_
          refine lv_iload hx hb dX4_dispatch_47 (lv_at hl 0 rfl) ?_
          refine lv_iconst (v := nI 0) hx hb dX4_dispatch_49 (by decide) ?_
          refine lv_iconst (v := nI 0) hx hb dX4_dispatch_50 (by decide) ?_
          refine wr_calli (va_runV (As := [.int (nI 0), .int (nI 0), .int (nI 0)]) (rest := []) ⟨hx, hb, hml, hown, hts⟩ (c_X4_throwing l dC dI cs b g h s.heap.size 0 0 0 hB (by decide) (by decide) (by decide)) (cwV 3 hts gX4_dispatch_X4_throwing rfl rfl rfl (by decide +kernel) ⟨Nat.le_of_ble_eq_true rfl, Nat.le_of_ble_eq_true rfl⟩) (wr_preV (q := (RX4, TX4, 29)) hP hK hD 0 rfl rfl) rfl rfl hl.1 rfl (lv_room (Nat.le_of_ble_eq_true rfl)) dX4_dispatch_51 ⟨Nat.zero_le _, Nat.zero_le _⟩) hS hD hA rfl (fun H locs hP hD hS => ?_)
          have hP : va_P (dC, dI) vwCl (wM cs b (un g 0 0) h) H := hP
          have hD : va_D A (wM cs b (un g 0 0) h) := hD
          refine W.eq (g2 := F0 m 54 ls (.int (nI 0) :: [])) rfl ?_
          have hB : m_bd (un g 0 0) := by (unfold m_bd un; simp; omega)
          refine lv_if_eq (tgt := 59) hx hb dX4_dispatch_54 (by decide) (fun _ => ?_) (fun c => absurd (by decide) c)
          refine lv_aload_n hx hb dX4_dispatch_59 rfl (lv_at hl 1 rfl) ?_
          refine va_get (D := (dC, dI)) (ci := 5) (v := .int (nI (g 10))) (C := RX4) (T := TX4) (N := 29) hx hb hts hinX4 hown hK hP 0 rfl rfl 10 (by decide) (hts (.fieldLink RX4 86 "RenameRowsModel" "rows" "I") (by decide +kernel)) (fun _ h9 => h9) rfl dX4_dispatch_60 ?_
          refine lv_aload_n hx hb dX4_dispatch_63 rfl (lv_at hl 1 rfl) ?_
          refine va_get (D := (dC, dI)) (ci := 5) (v := .int (nI (g 3))) (C := RX4) (T := TX4) (N := 29) hx hb hts hinX4 hown hK hP 0 rfl rfl 3 (by decide) (hts (.fieldLink RX4 70 "RenameRowsModel" "places" "I") (by decide +kernel)) (fun _ h9 => h9) rfl dX4_dispatch_64 ?_
          refine lv_icmp_ne (tgt := 82) hx hb dX4_dispatch_67 (by decide) (fun c_12 => absurd ((nI_eq (by omega) (by omega)).mpr (by omega)) c_12) (fun c_12 => ?_)
          have c_12 : (g 10) = (g 3) := (nI_eq (by omega) (by omega)).mp c_12
          refine lv_aload_n hx hb dX4_dispatch_70 rfl (lv_at hl 1 rfl) ?_
          refine lv_dup hx hb dX4_dispatch_71 rfl ?_
          refine va_get (D := (dC, dI)) (ci := 5) (v := .int (nI (g 27))) (C := RX4) (T := TX4) (N := 29) hx hb hts hinX4 hown hK hP 0 rfl rfl 27 (by decide) (hts (.fieldLink RX4 100 "RenameRowsModel" "noPlace" "I") (by decide +kernel)) (fun _ h9 => h9) rfl dX4_dispatch_72 ?_
          refine lv_iconst (v := nI 1) hx hb dX4_dispatch_75 (by decide) ?_
          refine lv_iadd hx hb dX4_dispatch_76 ?_
          refine tp_eq (nI_add (g 27) 1) ?_
          refine va_put (D := (dC, dI)) (ci := 5) (v := .int (nI ((g 27) + 1))) (ty := .int) (C := RX4) (T := TX4) (N := 29) hx hb hts hinX4 tyX4 tyX4_ok nmX4 hown hK hP hD hS 0 rfl rfl 27 (by decide) (hts (.fieldLink RX4 100 "RenameRowsModel" "noPlace" "I") (by decide +kernel)) (fun _ h9 => h9) rfl (by decide +kernel) rfl rfl (Nat.le_of_ble_eq_true rfl) dX4_dispatch_77 (fun H locs hP hD hS => ?_)
          have hP : va_P (dC, dI) vwCl (wM cs b (un (un g 0 0) 27 ((g 27) + 1)) h) H := hP
          have hD : va_D A (wM cs b (un (un g 0 0) 27 ((g 27) + 1)) h) := hD
          refine lv_iconst (v := (-1)) hx hb dX4_dispatch_80 (by decide) ?_
          exact wr_iret hx hb hr hlocks hP hS dX4_dispatch_81
        · refine lv_aload_n hx hb dX4_dispatch_31 rfl (lv_at hl 0 rfl) ?_
          refine lv_iload_n hx hb dX4_dispatch_32 rfl (lv_at hl 3 rfl) ?_
          refine W.callR (W.runV (As := [.int dt]) (rest := []) ⟨hx, hb, hml, hown, hts⟩ (c_X4_isRegister l dC dI cs b g h dt hB) (cwV 1 hts gX4_dispatch_X4_isRegister rfl rfl rfl (by decide +kernel) ⟨Nat.le_of_ble_eq_true rfl, Nat.le_of_ble_eq_true rfl⟩) (rd_preV (q := (RX4, TX4, 29)) hP hK 0 rfl rfl) rfl rfl hl.1 rfl (lv_room (Nat.le_of_ble_eq_true rfl)) dX4_dispatch_33 ⟨Nat.zero_le _, Nat.zero_le _⟩) ?_
          refine W.eq (g2 := F0 m 36 ls (.int (b2i (inB dt (g 1))) :: [])) rfl ?_
          refine lv_if_ne (tgt := 43) hx hb dX4_dispatch_36 (by decide) (fun c_13 => ?_) (fun c_13 => ?_)
          · have c_13 : inB dt (g 1) = true := b2i_t c_13
            obtain ⟨jdt, hjdt, rfl⟩ := inB_t c_13 (by omega)
            refine lv_iconst (v := nI 0) hx hb dX4_dispatch_43 (by decide) ?_
            refine lv_istore (lv' := [(4, .int (nI 0)), (0, .ref (b 0)), (1, .int (-1)), (2, .int (nI jdb)), (3, .int (nI jdt))]) hx hb dX4_dispatch_44 hl (by decide) rfl (fun ls hl => ?_)
            refine lv_aload_n hx hb dX4_dispatch_46 rfl (lv_at hl 1 rfl) ?_
            refine lv_iload hx hb dX4_dispatch_47 (lv_at hl 0 rfl) ?_
            refine lv_iconst (v := nI 0) hx hb dX4_dispatch_49 (by decide) ?_
            refine lv_iconst (v := nI 0) hx hb dX4_dispatch_50 (by decide) ?_
            refine wr_calli (va_runV (As := [.int (nI 0), .int (nI 0), .int (nI 0)]) (rest := []) ⟨hx, hb, hml, hown, hts⟩ (c_X4_throwing l dC dI cs b g h s.heap.size 0 0 0 hB (by decide) (by decide) (by decide)) (cwV 3 hts gX4_dispatch_X4_throwing rfl rfl rfl (by decide +kernel) ⟨Nat.le_of_ble_eq_true rfl, Nat.le_of_ble_eq_true rfl⟩) (wr_preV (q := (RX4, TX4, 29)) hP hK hD 0 rfl rfl) rfl rfl hl.1 rfl (lv_room (Nat.le_of_ble_eq_true rfl)) dX4_dispatch_51 ⟨Nat.zero_le _, Nat.zero_le _⟩) hS hD hA rfl (fun H locs hP hD hS => ?_)
            have hP : va_P (dC, dI) vwCl (wM cs b (un g 0 0) h) H := hP
            have hD : va_D A (wM cs b (un g 0 0) h) := hD
            refine W.eq (g2 := F0 m 54 ls (.int (nI 0) :: [])) rfl ?_
            have hB : m_bd (un g 0 0) := by (unfold m_bd un; simp; omega)
            refine lv_if_eq (tgt := 59) hx hb dX4_dispatch_54 (by decide) (fun _ => ?_) (fun c => absurd (by decide) c)
            refine lv_aload_n hx hb dX4_dispatch_59 rfl (lv_at hl 1 rfl) ?_
            refine va_get (D := (dC, dI)) (ci := 5) (v := .int (nI (g 10))) (C := RX4) (T := TX4) (N := 29) hx hb hts hinX4 hown hK hP 0 rfl rfl 10 (by decide) (hts (.fieldLink RX4 86 "RenameRowsModel" "rows" "I") (by decide +kernel)) (fun _ h9 => h9) rfl dX4_dispatch_60 ?_
            refine lv_aload_n hx hb dX4_dispatch_63 rfl (lv_at hl 1 rfl) ?_
            refine va_get (D := (dC, dI)) (ci := 5) (v := .int (nI (g 3))) (C := RX4) (T := TX4) (N := 29) hx hb hts hinX4 hown hK hP 0 rfl rfl 3 (by decide) (hts (.fieldLink RX4 70 "RenameRowsModel" "places" "I") (by decide +kernel)) (fun _ h9 => h9) rfl dX4_dispatch_64 ?_
            refine lv_icmp_ne (tgt := 82) hx hb dX4_dispatch_67 (by decide) (fun c_15 => absurd ((nI_eq (by omega) (by omega)).mpr (by omega)) c_15) (fun c_15 => ?_)
            have c_15 : (g 10) = (g 3) := (nI_eq (by omega) (by omega)).mp c_15
            refine lv_aload_n hx hb dX4_dispatch_70 rfl (lv_at hl 1 rfl) ?_
            refine lv_dup hx hb dX4_dispatch_71 rfl ?_
            refine va_get (D := (dC, dI)) (ci := 5) (v := .int (nI (g 27))) (C := RX4) (T := TX4) (N := 29) hx hb hts hinX4 hown hK hP 0 rfl rfl 27 (by decide) (hts (.fieldLink RX4 100 "RenameRowsModel" "noPlace" "I") (by decide +kernel)) (fun _ h9 => h9) rfl dX4_dispatch_72 ?_
            refine lv_iconst (v := nI 1) hx hb dX4_dispatch_75 (by decide) ?_
            refine lv_iadd hx hb dX4_dispatch_76 ?_
            refine tp_eq (nI_add (g 27) 1) ?_
            refine va_put (D := (dC, dI)) (ci := 5) (v := .int (nI ((g 27) + 1))) (ty := .int) (C := RX4) (T := TX4) (N := 29) hx hb hts hinX4 tyX4 tyX4_ok nmX4 hown hK hP hD hS 0 rfl rfl 27 (by decide) (hts (.fieldLink RX4 100 "RenameRowsModel" "noPlace" "I") (by decide +kernel)) (fun _ h9 => h9) rfl (by decide +kernel) rfl rfl (Nat.le_of_ble_eq_true rfl) dX4_dispatch_77 (fun H locs hP hD hS => ?_)
            have hP : va_P (dC, dI) vwCl (wM cs b (un (un g 0 0) 27 ((g 27) + 1)) h) H := hP
            have hD : va_D A (wM cs b (un (un g 0 0) 27 ((g 27) + 1)) h) := hD
            refine lv_iconst (v := (-1)) hx hb dX4_dispatch_80 (by decide) ?_
            exact wr_iret hx hb hr hlocks hP hS dX4_dispatch_81
          · have c_13 : inB dt (g 1) = false := b2i_f c_13
            exfalso; revert v1 v2 v3; simp [c_2, c_9, c_10, c_13, inB_m1]
  · refine lv_aload_n hx hb dX4_dispatch_5 rfl (lv_at hl 0 rfl) ?_
    refine lv_iload_n hx hb dX4_dispatch_6 rfl (lv_at hl 1 rfl) ?_
    refine W.callR (W.runV (As := [.int da]) (rest := []) ⟨hx, hb, hml, hown, hts⟩ (c_X4_isRegister l dC dI cs b g h da hB) (cwV 1 hts gX4_dispatch_X4_isRegister rfl rfl rfl (by decide +kernel) ⟨Nat.le_of_ble_eq_true rfl, Nat.le_of_ble_eq_true rfl⟩) (rd_preV (q := (RX4, TX4, 29)) hP hK 0 rfl rfl) rfl rfl hl.1 rfl (lv_room (Nat.le_of_ble_eq_true rfl)) dX4_dispatch_7 ⟨Nat.zero_le _, Nat.zero_le _⟩) ?_
    refine W.eq (g2 := F0 m 10 ls (.int (b2i (inB da (g 1))) :: [])) rfl ?_
    refine lv_if_eq (tgt := 39) hx hb dX4_dispatch_10 (by decide) (fun c_16 => ?_) (fun c_16 => ?_)
    · have c_16 : inB da (g 1) = false := b2i_f c_16
      exfalso; revert v1 v2 v3; simp [c_1, c_16, inB_m1]
    · have c_16 : inB da (g 1) = true := b2i_t c_16
      obtain ⟨jda, hjda, rfl⟩ := inB_t c_16 (by omega)
      refine lv_iload_n hx hb dX4_dispatch_13 rfl (lv_at hl 2 rfl) ?_
      refine lv_iconst (v := (-1)) hx hb dX4_dispatch_14 (by decide) ?_
      refine lv_icmp_eq (tgt := 26) hx hb dX4_dispatch_15 (by decide) (fun c_17 => ?_) (fun c_17 => ?_)
      · subst c_17
        refine lv_iload_n hx hb dX4_dispatch_26 rfl (lv_at hl 3 rfl) ?_
        refine lv_iconst (v := (-1)) hx hb dX4_dispatch_27 (by decide) ?_
        refine lv_icmp_eq (tgt := 43) hx hb dX4_dispatch_28 (by decide) (fun c_18 => ?_) (fun c_18 => ?_)
        · subst c_18
          refine lv_iconst (v := nI 0) hx hb dX4_dispatch_43 (by decide) ?_
          refine lv_istore (lv' := [(4, .int (nI 0)), (0, .ref (b 0)), (1, .int (nI jda)), (2, .int (-1)), (3, .int (-1))]) hx hb dX4_dispatch_44 hl (by decide) rfl (fun ls hl => ?_)
          refine lv_aload_n hx hb dX4_dispatch_46 rfl (lv_at hl 1 rfl) ?_
          refine lv_iload hx hb dX4_dispatch_47 (lv_at hl 0 rfl) ?_
          refine lv_iconst (v := nI 0) hx hb dX4_dispatch_49 (by decide) ?_
          refine lv_iconst (v := nI 0) hx hb dX4_dispatch_50 (by decide) ?_
          refine wr_calli (va_runV (As := [.int (nI 0), .int (nI 0), .int (nI 0)]) (rest := []) ⟨hx, hb, hml, hown, hts⟩ (c_X4_throwing l dC dI cs b g h s.heap.size 0 0 0 hB (by decide) (by decide) (by decide)) (cwV 3 hts gX4_dispatch_X4_throwing rfl rfl rfl (by decide +kernel) ⟨Nat.le_of_ble_eq_true rfl, Nat.le_of_ble_eq_true rfl⟩) (wr_preV (q := (RX4, TX4, 29)) hP hK hD 0 rfl rfl) rfl rfl hl.1 rfl (lv_room (Nat.le_of_ble_eq_true rfl)) dX4_dispatch_51 ⟨Nat.zero_le _, Nat.zero_le _⟩) hS hD hA rfl (fun H locs hP hD hS => ?_)
          have hP : va_P (dC, dI) vwCl (wM cs b (un g 0 0) h) H := hP
          have hD : va_D A (wM cs b (un g 0 0) h) := hD
          refine W.eq (g2 := F0 m 54 ls (.int (nI 0) :: [])) rfl ?_
          have hB : m_bd (un g 0 0) := by (unfold m_bd un; simp; omega)
          refine lv_if_eq (tgt := 59) hx hb dX4_dispatch_54 (by decide) (fun _ => ?_) (fun c => absurd (by decide) c)
          refine lv_aload_n hx hb dX4_dispatch_59 rfl (lv_at hl 1 rfl) ?_
          refine va_get (D := (dC, dI)) (ci := 5) (v := .int (nI (g 10))) (C := RX4) (T := TX4) (N := 29) hx hb hts hinX4 hown hK hP 0 rfl rfl 10 (by decide) (hts (.fieldLink RX4 86 "RenameRowsModel" "rows" "I") (by decide +kernel)) (fun _ h9 => h9) rfl dX4_dispatch_60 ?_
          refine lv_aload_n hx hb dX4_dispatch_63 rfl (lv_at hl 1 rfl) ?_
          refine va_get (D := (dC, dI)) (ci := 5) (v := .int (nI (g 3))) (C := RX4) (T := TX4) (N := 29) hx hb hts hinX4 hown hK hP 0 rfl rfl 3 (by decide) (hts (.fieldLink RX4 70 "RenameRowsModel" "places" "I") (by decide +kernel)) (fun _ h9 => h9) rfl dX4_dispatch_64 ?_
          refine lv_icmp_ne (tgt := 82) hx hb dX4_dispatch_67 (by decide) (fun c_20 => absurd ((nI_eq (by omega) (by omega)).mpr (by omega)) c_20) (fun c_20 => ?_)
          have c_20 : (g 10) = (g 3) := (nI_eq (by omega) (by omega)).mp c_20
          refine lv_aload_n hx hb dX4_dispatch_70 rfl (lv_at hl 1 rfl) ?_
          refine lv_dup hx hb dX4_dispatch_71 rfl ?_
          refine va_get (D := (dC, dI)) (ci := 5) (v := .int (nI (g 27))) (C := RX4) (T := TX4) (N := 29) hx hb hts hinX4 hown hK hP 0 rfl rfl 27 (by decide) (hts (.fieldLink RX4 100 "RenameRowsModel" "noPlace" "I") (by decide +kernel)) (fun _ h9 => h9) rfl dX4_dispatch_72 ?_
          refine lv_iconst (v := nI 1) hx hb dX4_dispatch_75 (by decide) ?_
          refine lv_iadd hx hb dX4_dispatch_76 ?_
          refine tp_eq (nI_add (g 27) 1) ?_
          refine va_put (D := (dC, dI)) (ci := 5) (v := .int (nI ((g 27) + 1))) (ty := .int) (C := RX4) (T := TX4) (N := 29) hx hb hts hinX4 tyX4 tyX4_ok nmX4 hown hK hP hD hS 0 rfl rfl 27 (by decide) (hts (.fieldLink RX4 100 "RenameRowsModel" "noPlace" "I") (by decide +kernel)) (fun _ h9 => h9) rfl (by decide +kernel) rfl rfl (Nat.le_of_ble_eq_true rfl) dX4_dispatch_77 (fun H locs hP hD hS => ?_)
          have hP : va_P (dC, dI) vwCl (wM cs b (un (un g 0 0) 27 ((g 27) + 1)) h) H := hP
          have hD : va_D A (wM cs b (un (un g 0 0) 27 ((g 27) + 1)) h) := hD
          refine lv_iconst (v := (-1)) hx hb dX4_dispatch_80 (by decide) ?_
          exact wr_iret hx hb hr hlocks hP hS dX4_dispatch_81
        · refine lv_aload_n hx hb dX4_dispatch_31 rfl (lv_at hl 0 rfl) ?_
          refine lv_iload_n hx hb dX4_dispatch_32 rfl (lv_at hl 3 rfl) ?_
          refine W.callR (W.runV (As := [.int dt]) (rest := []) ⟨hx, hb, hml, hown, hts⟩ (c_X4_isRegister l dC dI cs b g h dt hB) (cwV 1 hts gX4_dispatch_X4_isRegister rfl rfl rfl (by decide +kernel) ⟨Nat.le_of_ble_eq_true rfl, Nat.le_of_ble_eq_true rfl⟩) (rd_preV (q := (RX4, TX4, 29)) hP hK 0 rfl rfl) rfl rfl hl.1 rfl (lv_room (Nat.le_of_ble_eq_true rfl)) dX4_dispatch_33 ⟨Nat.zero_le _, Nat.zero_le _⟩) ?_
          refine W.eq (g2 := F0 m 36 ls (.int (b2i (inB dt (g 1))) :: [])) rfl ?_
          refine lv_if_ne (tgt := 43) hx hb dX4_dispatch_36 (by decide) (fun c_21 => ?_) (fun c_21 => ?_)
          · have c_21 : inB dt (g 1) = true := b2i_t c_21
            obtain ⟨jdt, hjdt, rfl⟩ := inB_t c_21 (by omega)
            refine lv_iconst (v := nI 0) hx hb dX4_dispatch_43 (by decide) ?_
            refine lv_istore (lv' := [(4, .int (nI 0)), (0, .ref (b 0)), (1, .int (nI jda)), (2, .int (-1)), (3, .int (nI jdt))]) hx hb dX4_dispatch_44 hl (by decide) rfl (fun ls hl => ?_)
            refine lv_aload_n hx hb dX4_dispatch_46 rfl (lv_at hl 1 rfl) ?_
            refine lv_iload hx hb dX4_dispatch_47 (lv_at hl 0 rfl) ?_
            refine lv_iconst (v := nI 0) hx hb dX4_dispatch_49 (by decide) ?_
            refine lv_iconst (v := nI 0) hx hb dX4_dispatch_50 (by decide) ?_
            refine wr_calli (va_runV (As := [.int (nI 0), .int (nI 0), .int (nI 0)]) (rest := []) ⟨hx, hb, hml, hown, hts⟩ (c_X4_throwing l dC dI cs b g h s.heap.size 0 0 0 hB (by decide) (by decide) (by decide)) (cwV 3 hts gX4_dispatch_X4_throwing rfl rfl rfl (by decide +kernel) ⟨Nat.le_of_ble_eq_true rfl, Nat.le_of_ble_eq_true rfl⟩) (wr_preV (q := (RX4, TX4, 29)) hP hK hD 0 rfl rfl) rfl rfl hl.1 rfl (lv_room (Nat.le_of_ble_eq_true rfl)) dX4_dispatch_51 ⟨Nat.zero_le _, Nat.zero_le _⟩) hS hD hA rfl (fun H locs hP hD hS => ?_)
            have hP : va_P (dC, dI) vwCl (wM cs b (un g 0 0) h) H := hP
            have hD : va_D A (wM cs b (un g 0 0) h) := hD
            refine W.eq (g2 := F0 m 54 ls (.int (nI 0) :: [])) rfl ?_
            have hB : m_bd (un g 0 0) := by (unfold m_bd un; simp; omega)
            refine lv_if_eq (tgt := 59) hx hb dX4_dispatch_54 (by decide) (fun _ => ?_) (fun c => absurd (by decide) c)
            refine lv_aload_n hx hb dX4_dispatch_59 rfl (lv_at hl 1 rfl) ?_
            refine va_get (D := (dC, dI)) (ci := 5) (v := .int (nI (g 10))) (C := RX4) (T := TX4) (N := 29) hx hb hts hinX4 hown hK hP 0 rfl rfl 10 (by decide) (hts (.fieldLink RX4 86 "RenameRowsModel" "rows" "I") (by decide +kernel)) (fun _ h9 => h9) rfl dX4_dispatch_60 ?_
            refine lv_aload_n hx hb dX4_dispatch_63 rfl (lv_at hl 1 rfl) ?_
            refine va_get (D := (dC, dI)) (ci := 5) (v := .int (nI (g 3))) (C := RX4) (T := TX4) (N := 29) hx hb hts hinX4 hown hK hP 0 rfl rfl 3 (by decide) (hts (.fieldLink RX4 70 "RenameRowsModel" "places" "I") (by decide +kernel)) (fun _ h9 => h9) rfl dX4_dispatch_64 ?_
            refine lv_icmp_ne (tgt := 82) hx hb dX4_dispatch_67 (by decide) (fun c_23 => absurd ((nI_eq (by omega) (by omega)).mpr (by omega)) c_23) (fun c_23 => ?_)
            have c_23 : (g 10) = (g 3) := (nI_eq (by omega) (by omega)).mp c_23
            refine lv_aload_n hx hb dX4_dispatch_70 rfl (lv_at hl 1 rfl) ?_
            refine lv_dup hx hb dX4_dispatch_71 rfl ?_
            refine va_get (D := (dC, dI)) (ci := 5) (v := .int (nI (g 27))) (C := RX4) (T := TX4) (N := 29) hx hb hts hinX4 hown hK hP 0 rfl rfl 27 (by decide) (hts (.fieldLink RX4 100 "RenameRowsModel" "noPlace" "I") (by decide +kernel)) (fun _ h9 => h9) rfl dX4_dispatch_72 ?_
            refine lv_iconst (v := nI 1) hx hb dX4_dispatch_75 (by decide) ?_
            refine lv_iadd hx hb dX4_dispatch_76 ?_
            refine tp_eq (nI_add (g 27) 1) ?_
            refine va_put (D := (dC, dI)) (ci := 5) (v := .int (nI ((g 27) + 1))) (ty := .int) (C := RX4) (T := TX4) (N := 29) hx hb hts hinX4 tyX4 tyX4_ok nmX4 hown hK hP hD hS 0 rfl rfl 27 (by decide) (hts (.fieldLink RX4 100 "RenameRowsModel" "noPlace" "I") (by decide +kernel)) (fun _ h9 => h9) rfl (by decide +kernel) rfl rfl (Nat.le_of_ble_eq_true rfl) dX4_dispatch_77 (fun H locs hP hD hS => ?_)
            have hP : va_P (dC, dI) vwCl (wM cs b (un (un g 0 0) 27 ((g 27) + 1)) h) H := hP
            have hD : va_D A (wM cs b (un (un g 0 0) 27 ((g 27) + 1)) h) := hD
            refine lv_iconst (v := (-1)) hx hb dX4_dispatch_80 (by decide) ?_
            exact wr_iret hx hb hr hlocks hP hS dX4_dispatch_81
          · have c_21 : inB dt (g 1) = false := b2i_f c_21
            exfalso; revert v1 v2 v3; simp [c_1, c_16, c_18, c_21, inB_m1]
      · refine lv_aload_n hx hb dX4_dispatch_18 rfl (lv_at hl 0 rfl) ?_
        refine lv_iload_n hx hb dX4_dispatch_19 rfl (lv_at hl 2 rfl) ?_
        refine W.callR (W.runV (As := [.int db]) (rest := []) ⟨hx, hb, hml, hown, hts⟩ (c_X4_isRegister l dC dI cs b g h db hB) (cwV 1 hts gX4_dispatch_X4_isRegister rfl rfl rfl (by decide +kernel) ⟨Nat.le_of_ble_eq_true rfl, Nat.le_of_ble_eq_true rfl⟩) (rd_preV (q := (RX4, TX4, 29)) hP hK 0 rfl rfl) rfl rfl hl.1 rfl (lv_room (Nat.le_of_ble_eq_true rfl)) dX4_dispatch_20 ⟨Nat.zero_le _, Nat.zero_le _⟩) ?_
        refine W.eq (g2 := F0 m 23 ls (.int (b2i (inB db (g 1))) :: [])) rfl ?_
        refine lv_if_eq (tgt := 39) hx hb dX4_dispatch_23 (by decide) (fun c_24 => ?_) (fun c_24 => ?_)
        · have c_24 : inB db (g 1) = false := b2i_f c_24
          exfalso; revert v1 v2 v3; simp [c_1, c_16, c_17, c_24, inB_m1]
        · have c_24 : inB db (g 1) = true := b2i_t c_24
          obtain ⟨jdb, hjdb, rfl⟩ := inB_t c_24 (by omega)
          refine lv_iload_n hx hb dX4_dispatch_26 rfl (lv_at hl 3 rfl) ?_
          refine lv_iconst (v := (-1)) hx hb dX4_dispatch_27 (by decide) ?_
          refine lv_icmp_eq (tgt := 43) hx hb dX4_dispatch_28 (by decide) (fun c_25 => ?_) (fun c_25 => ?_)
          · subst c_25
            refine lv_iconst (v := nI 0) hx hb dX4_dispatch_43 (by decide) ?_
            refine lv_istore (lv' := [(4, .int (nI 0)), (0, .ref (b 0)), (1, .int (nI jda)), (2, .int (nI jdb)), (3, .int (-1))]) hx hb dX4_dispatch_44 hl (by decide) rfl (fun ls hl => ?_)
            refine lv_aload_n hx hb dX4_dispatch_46 rfl (lv_at hl 1 rfl) ?_
            refine lv_iload hx hb dX4_dispatch_47 (lv_at hl 0 rfl) ?_
            refine lv_iconst (v := nI 0) hx hb dX4_dispatch_49 (by decide) ?_
            refine lv_iconst (v := nI 0) hx hb dX4_dispatch_50 (by decide) ?_
            refine wr_calli (va_runV (As := [.int (nI 0), .int (nI 0), .int (nI 0)]) (rest := []) ⟨hx, hb, hml, hown, hts⟩ (c_X4_throwing l dC dI cs b g h s.heap.size 0 0 0 hB (by decide) (by decide) (by decide)) (cwV 3 hts gX4_dispatch_X4_throwing rfl rfl rfl (by decide +kernel) ⟨Nat.le_of_ble_eq_true rfl, Nat.le_of_ble_eq_true rfl⟩) (wr_preV (q := (RX4, TX4, 29)) hP hK hD 0 rfl rfl) rfl rfl hl.1 rfl (lv_room (Nat.le_of_ble_eq_true rfl)) dX4_dispatch_51 ⟨Nat.zero_le _, Nat.zero_le _⟩) hS hD hA rfl (fun H locs hP hD hS => ?_)
            have hP : va_P (dC, dI) vwCl (wM cs b (un g 0 0) h) H := hP
            have hD : va_D A (wM cs b (un g 0 0) h) := hD
            refine W.eq (g2 := F0 m 54 ls (.int (nI 0) :: [])) rfl ?_
            have hB : m_bd (un g 0 0) := by (unfold m_bd un; simp; omega)
            refine lv_if_eq (tgt := 59) hx hb dX4_dispatch_54 (by decide) (fun _ => ?_) (fun c => absurd (by decide) c)
            refine lv_aload_n hx hb dX4_dispatch_59 rfl (lv_at hl 1 rfl) ?_
            refine va_get (D := (dC, dI)) (ci := 5) (v := .int (nI (g 10))) (C := RX4) (T := TX4) (N := 29) hx hb hts hinX4 hown hK hP 0 rfl rfl 10 (by decide) (hts (.fieldLink RX4 86 "RenameRowsModel" "rows" "I") (by decide +kernel)) (fun _ h9 => h9) rfl dX4_dispatch_60 ?_
            refine lv_aload_n hx hb dX4_dispatch_63 rfl (lv_at hl 1 rfl) ?_
            refine va_get (D := (dC, dI)) (ci := 5) (v := .int (nI (g 3))) (C := RX4) (T := TX4) (N := 29) hx hb hts hinX4 hown hK hP 0 rfl rfl 3 (by decide) (hts (.fieldLink RX4 70 "RenameRowsModel" "places" "I") (by decide +kernel)) (fun _ h9 => h9) rfl dX4_dispatch_64 ?_
            refine lv_icmp_ne (tgt := 82) hx hb dX4_dispatch_67 (by decide) (fun c_27 => absurd ((nI_eq (by omega) (by omega)).mpr (by omega)) c_27) (fun c_27 => ?_)
            have c_27 : (g 10) = (g 3) := (nI_eq (by omega) (by omega)).mp c_27
            refine lv_aload_n hx hb dX4_dispatch_70 rfl (lv_at hl 1 rfl) ?_
            refine lv_dup hx hb dX4_dispatch_71 rfl ?_
            refine va_get (D := (dC, dI)) (ci := 5) (v := .int (nI (g 27))) (C := RX4) (T := TX4) (N := 29) hx hb hts hinX4 hown hK hP 0 rfl rfl 27 (by decide) (hts (.fieldLink RX4 100 "RenameRowsModel" "noPlace" "I") (by decide +kernel)) (fun _ h9 => h9) rfl dX4_dispatch_72 ?_
            refine lv_iconst (v := nI 1) hx hb dX4_dispatch_75 (by decide) ?_
            refine lv_iadd hx hb dX4_dispatch_76 ?_
            refine tp_eq (nI_add (g 27) 1) ?_
            refine va_put (D := (dC, dI)) (ci := 5) (v := .int (nI ((g 27) + 1))) (ty := .int) (C := RX4) (T := TX4) (N := 29) hx hb hts hinX4 tyX4 tyX4_ok nmX4 hown hK hP hD hS 0 rfl rfl 27 (by decide) (hts (.fieldLink RX4 100 "RenameRowsModel" "noPlace" "I") (by decide +kernel)) (fun _ h9 => h9) rfl (by decide +kernel) rfl rfl (Nat.le_of_ble_eq_true rfl) dX4_dispatch_77 (fun H locs hP hD hS => ?_)
            have hP : va_P (dC, dI) vwCl (wM cs b (un (un g 0 0) 27 ((g 27) + 1)) h) H := hP
            have hD : va_D A (wM cs b (un (un g 0 0) 27 ((g 27) + 1)) h) := hD
            refine lv_iconst (v := (-1)) hx hb dX4_dispatch_80 (by decide) ?_
            exact wr_iret hx hb hr hlocks hP hS dX4_dispatch_81
          · refine lv_aload_n hx hb dX4_dispatch_31 rfl (lv_at hl 0 rfl) ?_
            refine lv_iload_n hx hb dX4_dispatch_32 rfl (lv_at hl 3 rfl) ?_
            refine W.callR (W.runV (As := [.int dt]) (rest := []) ⟨hx, hb, hml, hown, hts⟩ (c_X4_isRegister l dC dI cs b g h dt hB) (cwV 1 hts gX4_dispatch_X4_isRegister rfl rfl rfl (by decide +kernel) ⟨Nat.le_of_ble_eq_true rfl, Nat.le_of_ble_eq_true rfl⟩) (rd_preV (q := (RX4, TX4, 29)) hP hK 0 rfl rfl) rfl rfl hl.1 rfl (lv_room (Nat.le_of_ble_eq_true rfl)) dX4_dispatch_33 ⟨Nat.zero_le _, Nat.zero_le _⟩) ?_
            refine W.eq (g2 := F0 m 36 ls (.int (b2i (inB dt (g 1))) :: [])) rfl ?_
            refine lv_if_ne (tgt := 43) hx hb dX4_dispatch_36 (by decide) (fun c_28 => ?_) (fun c_28 => ?_)
            · have c_28 : inB dt (g 1) = true := b2i_t c_28
              obtain ⟨jdt, hjdt, rfl⟩ := inB_t c_28 (by omega)
              refine lv_iconst (v := nI 0) hx hb dX4_dispatch_43 (by decide) ?_
              refine lv_istore (lv' := [(4, .int (nI 0)), (0, .ref (b 0)), (1, .int (nI jda)), (2, .int (nI jdb)), (3, .int (nI jdt))]) hx hb dX4_dispatch_44 hl (by decide) rfl (fun ls hl => ?_)
              refine lv_aload_n hx hb dX4_dispatch_46 rfl (lv_at hl 1 rfl) ?_
              refine lv_iload hx hb dX4_dispatch_47 (lv_at hl 0 rfl) ?_
              refine lv_iconst (v := nI 0) hx hb dX4_dispatch_49 (by decide) ?_
              refine lv_iconst (v := nI 0) hx hb dX4_dispatch_50 (by decide) ?_
              refine wr_calli (va_runV (As := [.int (nI 0), .int (nI 0), .int (nI 0)]) (rest := []) ⟨hx, hb, hml, hown, hts⟩ (c_X4_throwing l dC dI cs b g h s.heap.size 0 0 0 hB (by decide) (by decide) (by decide)) (cwV 3 hts gX4_dispatch_X4_throwing rfl rfl rfl (by decide +kernel) ⟨Nat.le_of_ble_eq_true rfl, Nat.le_of_ble_eq_true rfl⟩) (wr_preV (q := (RX4, TX4, 29)) hP hK hD 0 rfl rfl) rfl rfl hl.1 rfl (lv_room (Nat.le_of_ble_eq_true rfl)) dX4_dispatch_51 ⟨Nat.zero_le _, Nat.zero_le _⟩) hS hD hA rfl (fun H locs hP hD hS => ?_)
              have hP : va_P (dC, dI) vwCl (wM cs b (un g 0 0) h) H := hP
              have hD : va_D A (wM cs b (un g 0 0) h) := hD
              refine W.eq (g2 := F0 m 54 ls (.int (nI 0) :: [])) rfl ?_
              have hB : m_bd (un g 0 0) := by (unfold m_bd un; simp; omega)
              refine lv_if_eq (tgt := 59) hx hb dX4_dispatch_54 (by decide) (fun _ => ?_) (fun c => absurd (by decide) c)
              refine lv_aload_n hx hb dX4_dispatch_59 rfl (lv_at hl 1 rfl) ?_
              refine va_get (D := (dC, dI)) (ci := 5) (v := .int (nI (g 10))) (C := RX4) (T := TX4) (N := 29) hx hb hts hinX4 hown hK hP 0 rfl rfl 10 (by decide) (hts (.fieldLink RX4 86 "RenameRowsModel" "rows" "I") (by decide +kernel)) (fun _ h9 => h9) rfl dX4_dispatch_60 ?_
              refine lv_aload_n hx hb dX4_dispatch_63 rfl (lv_at hl 1 rfl) ?_
              refine va_get (D := (dC, dI)) (ci := 5) (v := .int (nI (g 3))) (C := RX4) (T := TX4) (N := 29) hx hb hts hinX4 hown hK hP 0 rfl rfl 3 (by decide) (hts (.fieldLink RX4 70 "RenameRowsModel" "places" "I") (by decide +kernel)) (fun _ h9 => h9) rfl dX4_dispatch_64 ?_
              refine lv_icmp_ne (tgt := 82) hx hb dX4_dispatch_67 (by decide) (fun c_30 => absurd ((nI_eq (by omega) (by omega)).mpr (by omega)) c_30) (fun c_30 => ?_)
              have c_30 : (g 10) = (g 3) := (nI_eq (by omega) (by omega)).mp c_30
              refine lv_aload_n hx hb dX4_dispatch_70 rfl (lv_at hl 1 rfl) ?_
              refine lv_dup hx hb dX4_dispatch_71 rfl ?_
              refine va_get (D := (dC, dI)) (ci := 5) (v := .int (nI (g 27))) (C := RX4) (T := TX4) (N := 29) hx hb hts hinX4 hown hK hP 0 rfl rfl 27 (by decide) (hts (.fieldLink RX4 100 "RenameRowsModel" "noPlace" "I") (by decide +kernel)) (fun _ h9 => h9) rfl dX4_dispatch_72 ?_
              refine lv_iconst (v := nI 1) hx hb dX4_dispatch_75 (by decide) ?_
              refine lv_iadd hx hb dX4_dispatch_76 ?_
              refine tp_eq (nI_add (g 27) 1) ?_
              refine va_put (D := (dC, dI)) (ci := 5) (v := .int (nI ((g 27) + 1))) (ty := .int) (C := RX4) (T := TX4) (N := 29) hx hb hts hinX4 tyX4 tyX4_ok nmX4 hown hK hP hD hS 0 rfl rfl 27 (by decide) (hts (.fieldLink RX4 100 "RenameRowsModel" "noPlace" "I") (by decide +kernel)) (fun _ h9 => h9) rfl (by decide +kernel) rfl rfl (Nat.le_of_ble_eq_true rfl) dX4_dispatch_77 (fun H locs hP hD hS => ?_)
              have hP : va_P (dC, dI) vwCl (wM cs b (un (un g 0 0) 27 ((g 27) + 1)) h) H := hP
              have hD : va_D A (wM cs b (un (un g 0 0) 27 ((g 27) + 1)) h) := hD
              refine lv_iconst (v := (-1)) hx hb dX4_dispatch_80 (by decide) ?_
              exact wr_iret hx hb hr hlocks hP hS dX4_dispatch_81
            · have c_28 : inB dt (g 1) = false := b2i_f c_28
              exfalso; revert v1 v2 v3; simp [c_1, c_16, c_17, c_24, c_25, c_28, inB_m1]

set_option maxHeartbeats 4000000 in
set_option maxRecDepth 100000 in
theorem c_X4_dispatch_want (l : Launch) (dC : Nat → ClassId) (dI : Nat → Nat → Nat) (cs : ClassId × ClassId) (b g : Nat → Nat) (h : Nat → Nat → Int32) (sz : Nat) (da : Int32) (db : Int32) (r : Nat) (v1 : (decide (da = -1) || inB da (g 1)) = true) (v2 : (decide (db = -1) || inB db (g 1)) = true) (hB : m_bd g) (h1 : r < g 1) (h2 : g 10 < g 3) (h3 : g 9 = 0)  : Met l yX4_dispatch wsX4_dispatch ({ frames := 1, cells := 0, slots := 0, locals := 23 }) (wrPc (dC, dI) vwCl (wM cs b g h) (tyl cs) sz [.ref (b 0), .int da, .int db, .int (nI r)]) (wrQ (dC, dI) vwCl (wM cs b (un (un g 0 0) 28 ((g 28) + 1)) h) (some (.int (-1))) (va_A (wM cs b g h) sz)) 0 0 (va_A (wM cs b g h) sz) := by
  refine wr_of (cc := cX4_dispatch) (maxL := 8) (ret := (some .int)) (own := RX4) (by decide) rfl rfl (Nat.le_of_ble_eq_true rfl) ?_
  intro p e s m below meth c A hsz hAe hx hb hr hml hts hown hlocks hP hK hD hA hS ls hl
  have hl : lv_has ls 8 [(0, .ref (b 0)), (1, .int da), (2, .int db), (3, .int (nI r))] := hl
  have hinX4 : ∀ w ∈ wsX40, w ∈ wsX4_dispatch := by decide +kernel
  obtain ⟨M1, M2, M3, M4, M5, M6, M7, M8, M9, M10, M11, M12, M13, M14, M15, M16⟩ := id hB
  refine lv_iload_n hx hb dX4_dispatch_0 rfl (lv_at hl 1 rfl) ?_
  refine lv_iconst (v := (-1)) hx hb dX4_dispatch_1 (by decide) ?_
  refine lv_icmp_eq (tgt := 13) hx hb dX4_dispatch_2 (by decide) (fun c_1 => ?_) (fun c_1 => ?_)
  · subst c_1
    refine lv_iload_n hx hb dX4_dispatch_13 rfl (lv_at hl 2 rfl) ?_
    refine lv_iconst (v := (-1)) hx hb dX4_dispatch_14 (by decide) ?_
    refine lv_icmp_eq (tgt := 26) hx hb dX4_dispatch_15 (by decide) (fun c_2 => ?_) (fun c_2 => ?_)
    · subst c_2
      refine lv_iload_n hx hb dX4_dispatch_26 rfl (lv_at hl 3 rfl) ?_
      refine lv_iconst (v := (-1)) hx hb dX4_dispatch_27 (by decide) ?_
      refine lv_icmp_eq (tgt := 43) hx hb dX4_dispatch_28 (by decide) (fun c_3 => absurd c_3 (nI_m1 (by omega))) (fun c_3 => ?_)
      refine lv_aload_n hx hb dX4_dispatch_31 rfl (lv_at hl 0 rfl) ?_
      refine lv_iload_n hx hb dX4_dispatch_32 rfl (lv_at hl 3 rfl) ?_
      refine W.callR (W.runV (As := [.int (nI r)]) (rest := []) ⟨hx, hb, hml, hown, hts⟩ (c_X4_isRegister l dC dI cs b g h (nI r) hB) (cwV 1 hts gX4_dispatch_X4_isRegister rfl rfl rfl (by decide +kernel) ⟨Nat.le_of_ble_eq_true rfl, Nat.le_of_ble_eq_true rfl⟩) (rd_preV (q := (RX4, TX4, 29)) hP hK 0 rfl rfl) rfl rfl hl.1 rfl (lv_room (Nat.le_of_ble_eq_true rfl)) dX4_dispatch_33 ⟨Nat.zero_le _, Nat.zero_le _⟩) ?_
      refine W.eq (g2 := F0 m 36 ls (.int (b2i (inB (nI r) (g 1))) :: [])) rfl ?_
      refine lv_if_ne (tgt := 43) hx hb dX4_dispatch_36 (by decide) (fun c_4 => ?_) (fun c_4 => absurd (b2i_f c_4) (by rw [inB_nI (by omega) (by omega)]; simp; omega))
      have c_4 : inB (nI r) (g 1) = true := b2i_t c_4
      refine lv_iconst (v := nI 0) hx hb dX4_dispatch_43 (by decide) ?_
      refine lv_istore (lv' := [(4, .int (nI 0)), (0, .ref (b 0)), (1, .int (-1)), (2, .int (-1)), (3, .int (nI r))]) hx hb dX4_dispatch_44 hl (by decide) rfl (fun ls hl => ?_)
      refine lv_aload_n hx hb dX4_dispatch_46 rfl (lv_at hl 1 rfl) ?_
      refine lv_iload hx hb dX4_dispatch_47 (lv_at hl 0 rfl) ?_
      refine lv_iconst (v := nI 0) hx hb dX4_dispatch_49 (by decide) ?_
      refine lv_iconst (v := nI 0) hx hb dX4_dispatch_50 (by decide) ?_
      refine wr_calli (va_runV (As := [.int (nI 0), .int (nI 0), .int (nI 0)]) (rest := []) ⟨hx, hb, hml, hown, hts⟩ (c_X4_throwing l dC dI cs b g h s.heap.size 0 0 0 hB (by decide) (by decide) (by decide)) (cwV 3 hts gX4_dispatch_X4_throwing rfl rfl rfl (by decide +kernel) ⟨Nat.le_of_ble_eq_true rfl, Nat.le_of_ble_eq_true rfl⟩) (wr_preV (q := (RX4, TX4, 29)) hP hK hD 0 rfl rfl) rfl rfl hl.1 rfl (lv_room (Nat.le_of_ble_eq_true rfl)) dX4_dispatch_51 ⟨Nat.zero_le _, Nat.zero_le _⟩) hS hD hA rfl (fun H locs hP hD hS => ?_)
      have hP : va_P (dC, dI) vwCl (wM cs b (un g 0 0) h) H := hP
      have hD : va_D A (wM cs b (un g 0 0) h) := hD
      refine W.eq (g2 := F0 m 54 ls (.int (nI 0) :: [])) rfl ?_
      have hB : m_bd (un g 0 0) := by (unfold m_bd un; simp; omega)
      refine lv_if_eq (tgt := 59) hx hb dX4_dispatch_54 (by decide) (fun _ => ?_) (fun c => absurd (by decide) c)
      refine lv_aload_n hx hb dX4_dispatch_59 rfl (lv_at hl 1 rfl) ?_
      refine va_get (D := (dC, dI)) (ci := 5) (v := .int (nI (g 10))) (C := RX4) (T := TX4) (N := 29) hx hb hts hinX4 hown hK hP 0 rfl rfl 10 (by decide) (hts (.fieldLink RX4 86 "RenameRowsModel" "rows" "I") (by decide +kernel)) (fun _ h9 => h9) rfl dX4_dispatch_60 ?_
      refine lv_aload_n hx hb dX4_dispatch_63 rfl (lv_at hl 1 rfl) ?_
      refine va_get (D := (dC, dI)) (ci := 5) (v := .int (nI (g 3))) (C := RX4) (T := TX4) (N := 29) hx hb hts hinX4 hown hK hP 0 rfl rfl 3 (by decide) (hts (.fieldLink RX4 70 "RenameRowsModel" "places" "I") (by decide +kernel)) (fun _ h9 => h9) rfl dX4_dispatch_64 ?_
      refine lv_icmp_ne (tgt := 82) hx hb dX4_dispatch_67 (by decide) (fun c_6 => ?_) (fun c_6 => absurd ((nI_eq (by omega) (by omega)).mp c_6) (by omega))
      have c_6 : ¬ (g 10) = (g 3) := fun q => c_6 ((nI_eq (by omega) (by omega)).mpr q)
      refine lv_iload_n hx hb dX4_dispatch_82 rfl (lv_at hl 4 rfl) ?_
      refine lv_if_lt (tgt := 105) hx hb dX4_dispatch_83 (by decide) (fun c => absurd c (nI_pos (by omega))) (fun _ => ?_)
      refine lv_aload_n hx hb dX4_dispatch_86 rfl (lv_at hl 1 rfl) ?_
      refine va_get (D := (dC, dI)) (ci := 5) (v := .int (nI (g 9))) (C := RX4) (T := TX4) (N := 29) hx hb hts hinX4 hown hK hP 0 rfl rfl 9 (by decide) (hts (.fieldLink RX4 73 "RenameRowsModel" "free" "I") (by decide +kernel)) (fun _ h9 => h9) rfl dX4_dispatch_87 ?_
      refine lv_if_ne (tgt := 105) hx hb dX4_dispatch_90 (by decide) (fun c_8 => absurd ((nI_z (by omega)).mpr (by omega)) c_8) (fun c_8 => ?_)
      have c_8 : (g 9) = 0 := (nI_z (by omega)).mp c_8
      refine lv_aload_n hx hb dX4_dispatch_93 rfl (lv_at hl 1 rfl) ?_
      refine lv_dup hx hb dX4_dispatch_94 rfl ?_
      refine va_get (D := (dC, dI)) (ci := 5) (v := .int (nI (g 28))) (C := RX4) (T := TX4) (N := 29) hx hb hts hinX4 hown hK hP 0 rfl rfl 28 (by decide) (hts (.fieldLink RX4 103 "RenameRowsModel" "noName" "I") (by decide +kernel)) (fun _ h9 => h9) rfl dX4_dispatch_95 ?_
      refine lv_iconst (v := nI 1) hx hb dX4_dispatch_98 (by decide) ?_
      refine lv_iadd hx hb dX4_dispatch_99 ?_
      refine tp_eq (nI_add (g 28) 1) ?_
      refine va_put (D := (dC, dI)) (ci := 5) (v := .int (nI ((g 28) + 1))) (ty := .int) (C := RX4) (T := TX4) (N := 29) hx hb hts hinX4 tyX4 tyX4_ok nmX4 hown hK hP hD hS 0 rfl rfl 28 (by decide) (hts (.fieldLink RX4 103 "RenameRowsModel" "noName" "I") (by decide +kernel)) (fun _ h9 => h9) rfl (by decide +kernel) rfl rfl (Nat.le_of_ble_eq_true rfl) dX4_dispatch_100 (fun H locs hP hD hS => ?_)
      have hP : va_P (dC, dI) vwCl (wM cs b (un (un g 0 0) 28 ((g 28) + 1)) h) H := hP
      have hD : va_D A (wM cs b (un (un g 0 0) 28 ((g 28) + 1)) h) := hD
      refine lv_iconst (v := (-1)) hx hb dX4_dispatch_103 (by decide) ?_
      exact wr_iret hx hb hr hlocks hP hS dX4_dispatch_104
    · refine lv_aload_n hx hb dX4_dispatch_18 rfl (lv_at hl 0 rfl) ?_
      refine lv_iload_n hx hb dX4_dispatch_19 rfl (lv_at hl 2 rfl) ?_
      refine W.callR (W.runV (As := [.int db]) (rest := []) ⟨hx, hb, hml, hown, hts⟩ (c_X4_isRegister l dC dI cs b g h db hB) (cwV 1 hts gX4_dispatch_X4_isRegister rfl rfl rfl (by decide +kernel) ⟨Nat.le_of_ble_eq_true rfl, Nat.le_of_ble_eq_true rfl⟩) (rd_preV (q := (RX4, TX4, 29)) hP hK 0 rfl rfl) rfl rfl hl.1 rfl (lv_room (Nat.le_of_ble_eq_true rfl)) dX4_dispatch_20 ⟨Nat.zero_le _, Nat.zero_le _⟩) ?_
      refine W.eq (g2 := F0 m 23 ls (.int (b2i (inB db (g 1))) :: [])) rfl ?_
      refine lv_if_eq (tgt := 39) hx hb dX4_dispatch_23 (by decide) (fun c_9 => ?_) (fun c_9 => ?_)
      · have c_9 : inB db (g 1) = false := b2i_f c_9
        exfalso; revert v1 v2; simp [c_2, c_9, inB_m1]
      · have c_9 : inB db (g 1) = true := b2i_t c_9
        obtain ⟨jdb, hjdb, rfl⟩ := inB_t c_9 (by omega)
        refine lv_iload_n hx hb dX4_dispatch_26 rfl (lv_at hl 3 rfl) ?_
        refine lv_iconst (v := (-1)) hx hb dX4_dispatch_27 (by decide) ?_
        refine lv_icmp_eq (tgt := 43) hx hb dX4_dispatch_28 (by decide) (fun c_10 => absurd c_10 (nI_m1 (by omega))) (fun c_10 => ?_)
        refine lv_aload_n hx hb dX4_dispatch_31 rfl (lv_at hl 0 rfl) ?_
        refine lv_iload_n hx hb dX4_dispatch_32 rfl (lv_at hl 3 rfl) ?_
        refine W.callR (W.runV (As := [.int (nI r)]) (rest := []) ⟨hx, hb, hml, hown, hts⟩ (c_X4_isRegister l dC dI cs b g h (nI r) hB) (cwV 1 hts gX4_dispatch_X4_isRegister rfl rfl rfl (by decide +kernel) ⟨Nat.le_of_ble_eq_true rfl, Nat.le_of_ble_eq_true rfl⟩) (rd_preV (q := (RX4, TX4, 29)) hP hK 0 rfl rfl) rfl rfl hl.1 rfl (lv_room (Nat.le_of_ble_eq_true rfl)) dX4_dispatch_33 ⟨Nat.zero_le _, Nat.zero_le _⟩) ?_
        refine W.eq (g2 := F0 m 36 ls (.int (b2i (inB (nI r) (g 1))) :: [])) rfl ?_
        refine lv_if_ne (tgt := 43) hx hb dX4_dispatch_36 (by decide) (fun c_11 => ?_) (fun c_11 => absurd (b2i_f c_11) (by rw [inB_nI (by omega) (by omega)]; simp; omega))
        have c_11 : inB (nI r) (g 1) = true := b2i_t c_11
        refine lv_iconst (v := nI 0) hx hb dX4_dispatch_43 (by decide) ?_
        refine lv_istore (lv' := [(4, .int (nI 0)), (0, .ref (b 0)), (1, .int (-1)), (2, .int (nI jdb)), (3, .int (nI r))]) hx hb dX4_dispatch_44 hl (by decide) rfl (fun ls hl => ?_)
        refine lv_aload_n hx hb dX4_dispatch_46 rfl (lv_at hl 1 rfl) ?_
        refine lv_iload hx hb dX4_dispatch_47 (lv_at hl 0 rfl) ?_
        refine lv_iconst (v := nI 0) hx hb dX4_dispatch_49 (by decide) ?_
        refine lv_iconst (v := nI 0) hx hb dX4_dispatch_50 (by decide) ?_
        refine wr_calli (va_runV (As := [.int (nI 0), .int (nI 0), .int (nI 0)]) (rest := []) ⟨hx, hb, hml, hown, hts⟩ (c_X4_throwing l dC dI cs b g h s.heap.size 0 0 0 hB (by decide) (by decide) (by decide)) (cwV 3 hts gX4_dispatch_X4_throwing rfl rfl rfl (by decide +kernel) ⟨Nat.le_of_ble_eq_true rfl, Nat.le_of_ble_eq_true rfl⟩) (wr_preV (q := (RX4, TX4, 29)) hP hK hD 0 rfl rfl) rfl rfl hl.1 rfl (lv_room (Nat.le_of_ble_eq_true rfl)) dX4_dispatch_51 ⟨Nat.zero_le _, Nat.zero_le _⟩) hS hD hA rfl (fun H locs hP hD hS => ?_)
        have hP : va_P (dC, dI) vwCl (wM cs b (un g 0 0) h) H := hP
        have hD : va_D A (wM cs b (un g 0 0) h) := hD
        refine W.eq (g2 := F0 m 54 ls (.int (nI 0) :: [])) rfl ?_
        have hB : m_bd (un g 0 0) := by (unfold m_bd un; simp; omega)
        refine lv_if_eq (tgt := 59) hx hb dX4_dispatch_54 (by decide) (fun _ => ?_) (fun c => absurd (by decide) c)
        refine lv_aload_n hx hb dX4_dispatch_59 rfl (lv_at hl 1 rfl) ?_
        refine va_get (D := (dC, dI)) (ci := 5) (v := .int (nI (g 10))) (C := RX4) (T := TX4) (N := 29) hx hb hts hinX4 hown hK hP 0 rfl rfl 10 (by decide) (hts (.fieldLink RX4 86 "RenameRowsModel" "rows" "I") (by decide +kernel)) (fun _ h9 => h9) rfl dX4_dispatch_60 ?_
        refine lv_aload_n hx hb dX4_dispatch_63 rfl (lv_at hl 1 rfl) ?_
        refine va_get (D := (dC, dI)) (ci := 5) (v := .int (nI (g 3))) (C := RX4) (T := TX4) (N := 29) hx hb hts hinX4 hown hK hP 0 rfl rfl 3 (by decide) (hts (.fieldLink RX4 70 "RenameRowsModel" "places" "I") (by decide +kernel)) (fun _ h9 => h9) rfl dX4_dispatch_64 ?_
        refine lv_icmp_ne (tgt := 82) hx hb dX4_dispatch_67 (by decide) (fun c_13 => ?_) (fun c_13 => absurd ((nI_eq (by omega) (by omega)).mp c_13) (by omega))
        have c_13 : ¬ (g 10) = (g 3) := fun q => c_13 ((nI_eq (by omega) (by omega)).mpr q)
        refine lv_iload_n hx hb dX4_dispatch_82 rfl (lv_at hl 4 rfl) ?_
        refine lv_if_lt (tgt := 105) hx hb dX4_dispatch_83 (by decide) (fun c => absurd c (nI_pos (by omega))) (fun _ => ?_)
        refine lv_aload_n hx hb dX4_dispatch_86 rfl (lv_at hl 1 rfl) ?_
        refine va_get (D := (dC, dI)) (ci := 5) (v := .int (nI (g 9))) (C := RX4) (T := TX4) (N := 29) hx hb hts hinX4 hown hK hP 0 rfl rfl 9 (by decide) (hts (.fieldLink RX4 73 "RenameRowsModel" "free" "I") (by decide +kernel)) (fun _ h9 => h9) rfl dX4_dispatch_87 ?_
        refine lv_if_ne (tgt := 105) hx hb dX4_dispatch_90 (by decide) (fun c_15 => absurd ((nI_z (by omega)).mpr (by omega)) c_15) (fun c_15 => ?_)
        have c_15 : (g 9) = 0 := (nI_z (by omega)).mp c_15
        refine lv_aload_n hx hb dX4_dispatch_93 rfl (lv_at hl 1 rfl) ?_
        refine lv_dup hx hb dX4_dispatch_94 rfl ?_
        refine va_get (D := (dC, dI)) (ci := 5) (v := .int (nI (g 28))) (C := RX4) (T := TX4) (N := 29) hx hb hts hinX4 hown hK hP 0 rfl rfl 28 (by decide) (hts (.fieldLink RX4 103 "RenameRowsModel" "noName" "I") (by decide +kernel)) (fun _ h9 => h9) rfl dX4_dispatch_95 ?_
        refine lv_iconst (v := nI 1) hx hb dX4_dispatch_98 (by decide) ?_
        refine lv_iadd hx hb dX4_dispatch_99 ?_
        refine tp_eq (nI_add (g 28) 1) ?_
        refine va_put (D := (dC, dI)) (ci := 5) (v := .int (nI ((g 28) + 1))) (ty := .int) (C := RX4) (T := TX4) (N := 29) hx hb hts hinX4 tyX4 tyX4_ok nmX4 hown hK hP hD hS 0 rfl rfl 28 (by decide) (hts (.fieldLink RX4 103 "RenameRowsModel" "noName" "I") (by decide +kernel)) (fun _ h9 => h9) rfl (by decide +kernel) rfl rfl (Nat.le_of_ble_eq_true rfl) dX4_dispatch_100 (fun H locs hP hD hS => ?_)
        have hP : va_P (dC, dI) vwCl (wM cs b (un (un g 0 0) 28 ((g 28) + 1)) h) H := hP
        have hD : va_D A (wM cs b (un (un g 0 0) 28 ((g 28) + 1)) h) := hD
        refine lv_iconst (v := (-1)) hx hb dX4_dispatch_103 (by decide) ?_
        exact wr_iret hx hb hr hlocks hP hS dX4_dispatch_104
  · refine lv_aload_n hx hb dX4_dispatch_5 rfl (lv_at hl 0 rfl) ?_
    refine lv_iload_n hx hb dX4_dispatch_6 rfl (lv_at hl 1 rfl) ?_
    refine W.callR (W.runV (As := [.int da]) (rest := []) ⟨hx, hb, hml, hown, hts⟩ (c_X4_isRegister l dC dI cs b g h da hB) (cwV 1 hts gX4_dispatch_X4_isRegister rfl rfl rfl (by decide +kernel) ⟨Nat.le_of_ble_eq_true rfl, Nat.le_of_ble_eq_true rfl⟩) (rd_preV (q := (RX4, TX4, 29)) hP hK 0 rfl rfl) rfl rfl hl.1 rfl (lv_room (Nat.le_of_ble_eq_true rfl)) dX4_dispatch_7 ⟨Nat.zero_le _, Nat.zero_le _⟩) ?_
    refine W.eq (g2 := F0 m 10 ls (.int (b2i (inB da (g 1))) :: [])) rfl ?_
    refine lv_if_eq (tgt := 39) hx hb dX4_dispatch_10 (by decide) (fun c_16 => ?_) (fun c_16 => ?_)
    · have c_16 : inB da (g 1) = false := b2i_f c_16
      exfalso; revert v1 v2; simp [c_1, c_16, inB_m1]
    · have c_16 : inB da (g 1) = true := b2i_t c_16
      obtain ⟨jda, hjda, rfl⟩ := inB_t c_16 (by omega)
      refine lv_iload_n hx hb dX4_dispatch_13 rfl (lv_at hl 2 rfl) ?_
      refine lv_iconst (v := (-1)) hx hb dX4_dispatch_14 (by decide) ?_
      refine lv_icmp_eq (tgt := 26) hx hb dX4_dispatch_15 (by decide) (fun c_17 => ?_) (fun c_17 => ?_)
      · subst c_17
        refine lv_iload_n hx hb dX4_dispatch_26 rfl (lv_at hl 3 rfl) ?_
        refine lv_iconst (v := (-1)) hx hb dX4_dispatch_27 (by decide) ?_
        refine lv_icmp_eq (tgt := 43) hx hb dX4_dispatch_28 (by decide) (fun c_18 => absurd c_18 (nI_m1 (by omega))) (fun c_18 => ?_)
        refine lv_aload_n hx hb dX4_dispatch_31 rfl (lv_at hl 0 rfl) ?_
        refine lv_iload_n hx hb dX4_dispatch_32 rfl (lv_at hl 3 rfl) ?_
        refine W.callR (W.runV (As := [.int (nI r)]) (rest := []) ⟨hx, hb, hml, hown, hts⟩ (c_X4_isRegister l dC dI cs b g h (nI r) hB) (cwV 1 hts gX4_dispatch_X4_isRegister rfl rfl rfl (by decide +kernel) ⟨Nat.le_of_ble_eq_true rfl, Nat.le_of_ble_eq_true rfl⟩) (rd_preV (q := (RX4, TX4, 29)) hP hK 0 rfl rfl) rfl rfl hl.1 rfl (lv_room (Nat.le_of_ble_eq_true rfl)) dX4_dispatch_33 ⟨Nat.zero_le _, Nat.zero_le _⟩) ?_
        refine W.eq (g2 := F0 m 36 ls (.int (b2i (inB (nI r) (g 1))) :: [])) rfl ?_
        refine lv_if_ne (tgt := 43) hx hb dX4_dispatch_36 (by decide) (fun c_19 => ?_) (fun c_19 => absurd (b2i_f c_19) (by rw [inB_nI (by omega) (by omega)]; simp; omega))
        have c_19 : inB (nI r) (g 1) = true := b2i_t c_19
        refine lv_iconst (v := nI 0) hx hb dX4_dispatch_43 (by decide) ?_
        refine lv_istore (lv' := [(4, .int (nI 0)), (0, .ref (b 0)), (1, .int (nI jda)), (2, .int (-1)), (3, .int (nI r))]) hx hb dX4_dispatch_44 hl (by decide) rfl (fun ls hl => ?_)
        refine lv_aload_n hx hb dX4_dispatch_46 rfl (lv_at hl 1 rfl) ?_
        refine lv_iload hx hb dX4_dispatch_47 (lv_at hl 0 rfl) ?_
        refine lv_iconst (v := nI 0) hx hb dX4_dispatch_49 (by decide) ?_
        refine lv_iconst (v := nI 0) hx hb dX4_dispatch_50 (by decide) ?_
        refine wr_calli (va_runV (As := [.int (nI 0), .int (nI 0), .int (nI 0)]) (rest := []) ⟨hx, hb, hml, hown, hts⟩ (c_X4_throwing l dC dI cs b g h s.heap.size 0 0 0 hB (by decide) (by decide) (by decide)) (cwV 3 hts gX4_dispatch_X4_throwing rfl rfl rfl (by decide +kernel) ⟨Nat.le_of_ble_eq_true rfl, Nat.le_of_ble_eq_true rfl⟩) (wr_preV (q := (RX4, TX4, 29)) hP hK hD 0 rfl rfl) rfl rfl hl.1 rfl (lv_room (Nat.le_of_ble_eq_true rfl)) dX4_dispatch_51 ⟨Nat.zero_le _, Nat.zero_le _⟩) hS hD hA rfl (fun H locs hP hD hS => ?_)
        have hP : va_P (dC, dI) vwCl (wM cs b (un g 0 0) h) H := hP
        have hD : va_D A (wM cs b (un g 0 0) h) := hD
        refine W.eq (g2 := F0 m 54 ls (.int (nI 0) :: [])) rfl ?_
        have hB : m_bd (un g 0 0) := by (unfold m_bd un; simp; omega)
        refine lv_if_eq (tgt := 59) hx hb dX4_dispatch_54 (by decide) (fun _ => ?_) (fun c => absurd (by decide) c)
        refine lv_aload_n hx hb dX4_dispatch_59 rfl (lv_at hl 1 rfl) ?_
        refine va_get (D := (dC, dI)) (ci := 5) (v := .int (nI (g 10))) (C := RX4) (T := TX4) (N := 29) hx hb hts hinX4 hown hK hP 0 rfl rfl 10 (by decide) (hts (.fieldLink RX4 86 "RenameRowsModel" "rows" "I") (by decide +kernel)) (fun _ h9 => h9) rfl dX4_dispatch_60 ?_
        refine lv_aload_n hx hb dX4_dispatch_63 rfl (lv_at hl 1 rfl) ?_
        refine va_get (D := (dC, dI)) (ci := 5) (v := .int (nI (g 3))) (C := RX4) (T := TX4) (N := 29) hx hb hts hinX4 hown hK hP 0 rfl rfl 3 (by decide) (hts (.fieldLink RX4 70 "RenameRowsModel" "places" "I") (by decide +kernel)) (fun _ h9 => h9) rfl dX4_dispatch_64 ?_
        refine lv_icmp_ne (tgt := 82) hx hb dX4_dispatch_67 (by decide) (fun c_21 => ?_) (fun c_21 => absurd ((nI_eq (by omega) (by omega)).mp c_21) (by omega))
        have c_21 : ¬ (g 10) = (g 3) := fun q => c_21 ((nI_eq (by omega) (by omega)).mpr q)
        refine lv_iload_n hx hb dX4_dispatch_82 rfl (lv_at hl 4 rfl) ?_
        refine lv_if_lt (tgt := 105) hx hb dX4_dispatch_83 (by decide) (fun c => absurd c (nI_pos (by omega))) (fun _ => ?_)
        refine lv_aload_n hx hb dX4_dispatch_86 rfl (lv_at hl 1 rfl) ?_
        refine va_get (D := (dC, dI)) (ci := 5) (v := .int (nI (g 9))) (C := RX4) (T := TX4) (N := 29) hx hb hts hinX4 hown hK hP 0 rfl rfl 9 (by decide) (hts (.fieldLink RX4 73 "RenameRowsModel" "free" "I") (by decide +kernel)) (fun _ h9 => h9) rfl dX4_dispatch_87 ?_
        refine lv_if_ne (tgt := 105) hx hb dX4_dispatch_90 (by decide) (fun c_23 => absurd ((nI_z (by omega)).mpr (by omega)) c_23) (fun c_23 => ?_)
        have c_23 : (g 9) = 0 := (nI_z (by omega)).mp c_23
        refine lv_aload_n hx hb dX4_dispatch_93 rfl (lv_at hl 1 rfl) ?_
        refine lv_dup hx hb dX4_dispatch_94 rfl ?_
        refine va_get (D := (dC, dI)) (ci := 5) (v := .int (nI (g 28))) (C := RX4) (T := TX4) (N := 29) hx hb hts hinX4 hown hK hP 0 rfl rfl 28 (by decide) (hts (.fieldLink RX4 103 "RenameRowsModel" "noName" "I") (by decide +kernel)) (fun _ h9 => h9) rfl dX4_dispatch_95 ?_
        refine lv_iconst (v := nI 1) hx hb dX4_dispatch_98 (by decide) ?_
        refine lv_iadd hx hb dX4_dispatch_99 ?_
        refine tp_eq (nI_add (g 28) 1) ?_
        refine va_put (D := (dC, dI)) (ci := 5) (v := .int (nI ((g 28) + 1))) (ty := .int) (C := RX4) (T := TX4) (N := 29) hx hb hts hinX4 tyX4 tyX4_ok nmX4 hown hK hP hD hS 0 rfl rfl 28 (by decide) (hts (.fieldLink RX4 103 "RenameRowsModel" "noName" "I") (by decide +kernel)) (fun _ h9 => h9) rfl (by decide +kernel) rfl rfl (Nat.le_of_ble_eq_true rfl) dX4_dispatch_100 (fun H locs hP hD hS => ?_)
        have hP : va_P (dC, dI) vwCl (wM cs b (un (un g 0 0) 28 ((g 28) + 1)) h) H := hP
        have hD : va_D A (wM cs b (un (un g 0 0) 28 ((g 28) + 1)) h) := hD
        refine lv_iconst (v := (-1)) hx hb dX4_dispatch_103 (by decide) ?_
        exact wr_iret hx hb hr hlocks hP hS dX4_dispatch_104
      · refine lv_aload_n hx hb dX4_dispatch_18 rfl (lv_at hl 0 rfl) ?_
        refine lv_iload_n hx hb dX4_dispatch_19 rfl (lv_at hl 2 rfl) ?_
        refine W.callR (W.runV (As := [.int db]) (rest := []) ⟨hx, hb, hml, hown, hts⟩ (c_X4_isRegister l dC dI cs b g h db hB) (cwV 1 hts gX4_dispatch_X4_isRegister rfl rfl rfl (by decide +kernel) ⟨Nat.le_of_ble_eq_true rfl, Nat.le_of_ble_eq_true rfl⟩) (rd_preV (q := (RX4, TX4, 29)) hP hK 0 rfl rfl) rfl rfl hl.1 rfl (lv_room (Nat.le_of_ble_eq_true rfl)) dX4_dispatch_20 ⟨Nat.zero_le _, Nat.zero_le _⟩) ?_
        refine W.eq (g2 := F0 m 23 ls (.int (b2i (inB db (g 1))) :: [])) rfl ?_
        refine lv_if_eq (tgt := 39) hx hb dX4_dispatch_23 (by decide) (fun c_24 => ?_) (fun c_24 => ?_)
        · have c_24 : inB db (g 1) = false := b2i_f c_24
          exfalso; revert v1 v2; simp [c_1, c_16, c_17, c_24, inB_m1]
        · have c_24 : inB db (g 1) = true := b2i_t c_24
          obtain ⟨jdb, hjdb, rfl⟩ := inB_t c_24 (by omega)
          refine lv_iload_n hx hb dX4_dispatch_26 rfl (lv_at hl 3 rfl) ?_
          refine lv_iconst (v := (-1)) hx hb dX4_dispatch_27 (by decide) ?_
          refine lv_icmp_eq (tgt := 43) hx hb dX4_dispatch_28 (by decide) (fun c_25 => absurd c_25 (nI_m1 (by omega))) (fun c_25 => ?_)
          refine lv_aload_n hx hb dX4_dispatch_31 rfl (lv_at hl 0 rfl) ?_
          refine lv_iload_n hx hb dX4_dispatch_32 rfl (lv_at hl 3 rfl) ?_
          refine W.callR (W.runV (As := [.int (nI r)]) (rest := []) ⟨hx, hb, hml, hown, hts⟩ (c_X4_isRegister l dC dI cs b g h (nI r) hB) (cwV 1 hts gX4_dispatch_X4_isRegister rfl rfl rfl (by decide +kernel) ⟨Nat.le_of_ble_eq_true rfl, Nat.le_of_ble_eq_true rfl⟩) (rd_preV (q := (RX4, TX4, 29)) hP hK 0 rfl rfl) rfl rfl hl.1 rfl (lv_room (Nat.le_of_ble_eq_true rfl)) dX4_dispatch_33 ⟨Nat.zero_le _, Nat.zero_le _⟩) ?_
          refine W.eq (g2 := F0 m 36 ls (.int (b2i (inB (nI r) (g 1))) :: [])) rfl ?_
          refine lv_if_ne (tgt := 43) hx hb dX4_dispatch_36 (by decide) (fun c_26 => ?_) (fun c_26 => absurd (b2i_f c_26) (by rw [inB_nI (by omega) (by omega)]; simp; omega))
          have c_26 : inB (nI r) (g 1) = true := b2i_t c_26
          refine lv_iconst (v := nI 0) hx hb dX4_dispatch_43 (by decide) ?_
          refine lv_istore (lv' := [(4, .int (nI 0)), (0, .ref (b 0)), (1, .int (nI jda)), (2, .int (nI jdb)), (3, .int (nI r))]) hx hb dX4_dispatch_44 hl (by decide) rfl (fun ls hl => ?_)
          refine lv_aload_n hx hb dX4_dispatch_46 rfl (lv_at hl 1 rfl) ?_
          refine lv_iload hx hb dX4_dispatch_47 (lv_at hl 0 rfl) ?_
          refine lv_iconst (v := nI 0) hx hb dX4_dispatch_49 (by decide) ?_
          refine lv_iconst (v := nI 0) hx hb dX4_dispatch_50 (by decide) ?_
          refine wr_calli (va_runV (As := [.int (nI 0), .int (nI 0), .int (nI 0)]) (rest := []) ⟨hx, hb, hml, hown, hts⟩ (c_X4_throwing l dC dI cs b g h s.heap.size 0 0 0 hB (by decide) (by decide) (by decide)) (cwV 3 hts gX4_dispatch_X4_throwing rfl rfl rfl (by decide +kernel) ⟨Nat.le_of_ble_eq_true rfl, Nat.le_of_ble_eq_true rfl⟩) (wr_preV (q := (RX4, TX4, 29)) hP hK hD 0 rfl rfl) rfl rfl hl.1 rfl (lv_room (Nat.le_of_ble_eq_true rfl)) dX4_dispatch_51 ⟨Nat.zero_le _, Nat.zero_le _⟩) hS hD hA rfl (fun H locs hP hD hS => ?_)
          have hP : va_P (dC, dI) vwCl (wM cs b (un g 0 0) h) H := hP
          have hD : va_D A (wM cs b (un g 0 0) h) := hD
          refine W.eq (g2 := F0 m 54 ls (.int (nI 0) :: [])) rfl ?_
          have hB : m_bd (un g 0 0) := by (unfold m_bd un; simp; omega)
          refine lv_if_eq (tgt := 59) hx hb dX4_dispatch_54 (by decide) (fun _ => ?_) (fun c => absurd (by decide) c)
          refine lv_aload_n hx hb dX4_dispatch_59 rfl (lv_at hl 1 rfl) ?_
          refine va_get (D := (dC, dI)) (ci := 5) (v := .int (nI (g 10))) (C := RX4) (T := TX4) (N := 29) hx hb hts hinX4 hown hK hP 0 rfl rfl 10 (by decide) (hts (.fieldLink RX4 86 "RenameRowsModel" "rows" "I") (by decide +kernel)) (fun _ h9 => h9) rfl dX4_dispatch_60 ?_
          refine lv_aload_n hx hb dX4_dispatch_63 rfl (lv_at hl 1 rfl) ?_
          refine va_get (D := (dC, dI)) (ci := 5) (v := .int (nI (g 3))) (C := RX4) (T := TX4) (N := 29) hx hb hts hinX4 hown hK hP 0 rfl rfl 3 (by decide) (hts (.fieldLink RX4 70 "RenameRowsModel" "places" "I") (by decide +kernel)) (fun _ h9 => h9) rfl dX4_dispatch_64 ?_
          refine lv_icmp_ne (tgt := 82) hx hb dX4_dispatch_67 (by decide) (fun c_28 => ?_) (fun c_28 => absurd ((nI_eq (by omega) (by omega)).mp c_28) (by omega))
          have c_28 : ¬ (g 10) = (g 3) := fun q => c_28 ((nI_eq (by omega) (by omega)).mpr q)
          refine lv_iload_n hx hb dX4_dispatch_82 rfl (lv_at hl 4 rfl) ?_
          refine lv_if_lt (tgt := 105) hx hb dX4_dispatch_83 (by decide) (fun c => absurd c (nI_pos (by omega))) (fun _ => ?_)
          refine lv_aload_n hx hb dX4_dispatch_86 rfl (lv_at hl 1 rfl) ?_
          refine va_get (D := (dC, dI)) (ci := 5) (v := .int (nI (g 9))) (C := RX4) (T := TX4) (N := 29) hx hb hts hinX4 hown hK hP 0 rfl rfl 9 (by decide) (hts (.fieldLink RX4 73 "RenameRowsModel" "free" "I") (by decide +kernel)) (fun _ h9 => h9) rfl dX4_dispatch_87 ?_
          refine lv_if_ne (tgt := 105) hx hb dX4_dispatch_90 (by decide) (fun c_30 => absurd ((nI_z (by omega)).mpr (by omega)) c_30) (fun c_30 => ?_)
          have c_30 : (g 9) = 0 := (nI_z (by omega)).mp c_30
          refine lv_aload_n hx hb dX4_dispatch_93 rfl (lv_at hl 1 rfl) ?_
          refine lv_dup hx hb dX4_dispatch_94 rfl ?_
          refine va_get (D := (dC, dI)) (ci := 5) (v := .int (nI (g 28))) (C := RX4) (T := TX4) (N := 29) hx hb hts hinX4 hown hK hP 0 rfl rfl 28 (by decide) (hts (.fieldLink RX4 103 "RenameRowsModel" "noName" "I") (by decide +kernel)) (fun _ h9 => h9) rfl dX4_dispatch_95 ?_
          refine lv_iconst (v := nI 1) hx hb dX4_dispatch_98 (by decide) ?_
          refine lv_iadd hx hb dX4_dispatch_99 ?_
          refine tp_eq (nI_add (g 28) 1) ?_
          refine va_put (D := (dC, dI)) (ci := 5) (v := .int (nI ((g 28) + 1))) (ty := .int) (C := RX4) (T := TX4) (N := 29) hx hb hts hinX4 tyX4 tyX4_ok nmX4 hown hK hP hD hS 0 rfl rfl 28 (by decide) (hts (.fieldLink RX4 103 "RenameRowsModel" "noName" "I") (by decide +kernel)) (fun _ h9 => h9) rfl (by decide +kernel) rfl rfl (Nat.le_of_ble_eq_true rfl) dX4_dispatch_100 (fun H locs hP hD hS => ?_)
          have hP : va_P (dC, dI) vwCl (wM cs b (un (un g 0 0) 28 ((g 28) + 1)) h) H := hP
          have hD : va_D A (wM cs b (un (un g 0 0) 28 ((g 28) + 1)) h) := hD
          refine lv_iconst (v := (-1)) hx hb dX4_dispatch_103 (by decide) ?_
          exact wr_iret hx hb hr hlocks hP hS dX4_dispatch_104

set_option maxHeartbeats 4000000 in
set_option maxRecDepth 100000 in
theorem c_X4_dispatch_no (l : Launch) (dC : Nat → ClassId) (dI : Nat → Nat → Nat) (cs : ClassId × ClassId) (b g : Nat → Nat) (h : Nat → Nat → Int32) (sz : Nat) (da : Int32) (db : Int32) (dt : Int32) (v1 : (decide (da = -1) || inB da (g 1)) = true) (v2 : (decide (db = -1) || inB db (g 1)) = true) (v4 : dt = -1) (hB : m_bd g) (h1 : g 10 < g 3)  : Met l yX4_dispatch wsX4_dispatch ({ frames := 2, cells := 0, slots := 0, locals := 46 }) (wrPc (dC, dI) vwCl (wM cs b g h) (tyl cs) sz [.ref (b 0), .int da, .int db, .int dt]) (wrQ (dC, dI) vwCl (wM cs b (un (un g 0 0) 10 ((g 10) + 1)) (m_aF (un g 0 0) h (m_cur g h da) (m_cur g h db) (-1) (-1) dt (nI 0))) (some (.int (nI (m_pos g (g 10))))) (va_A (wM cs b g h) sz)) 0 0 (va_A (wM cs b g h) sz) := by
  refine wr_of (cc := cX4_dispatch) (maxL := 8) (ret := (some .int)) (own := RX4) (by decide) rfl rfl (Nat.le_of_ble_eq_true rfl) ?_
  intro p e s m below meth c A hsz hAe hx hb hr hml hts hown hlocks hP hK hD hA hS ls hl
  have hl : lv_has ls 8 [(0, .ref (b 0)), (1, .int da), (2, .int db), (3, .int dt)] := hl
  have hinX4 : ∀ w ∈ wsX40, w ∈ wsX4_dispatch := by decide +kernel
  obtain ⟨M1, M2, M3, M4, M5, M6, M7, M8, M9, M10, M11, M12, M13, M14, M15, M16⟩ := id hB
  subst v4
  refine lv_iload_n hx hb dX4_dispatch_0 rfl (lv_at hl 1 rfl) ?_
  refine lv_iconst (v := (-1)) hx hb dX4_dispatch_1 (by decide) ?_
  refine lv_icmp_eq (tgt := 13) hx hb dX4_dispatch_2 (by decide) (fun c_1 => ?_) (fun c_1 => ?_)
  · subst c_1
    refine lv_iload_n hx hb dX4_dispatch_13 rfl (lv_at hl 2 rfl) ?_
    refine lv_iconst (v := (-1)) hx hb dX4_dispatch_14 (by decide) ?_
    refine lv_icmp_eq (tgt := 26) hx hb dX4_dispatch_15 (by decide) (fun c_2 => ?_) (fun c_2 => ?_)
    · subst c_2
      refine lv_iload_n hx hb dX4_dispatch_26 rfl (lv_at hl 3 rfl) ?_
      refine lv_iconst (v := (-1)) hx hb dX4_dispatch_27 (by decide) ?_
      refine lv_icmp_eq (tgt := 43) hx hb dX4_dispatch_28 (by decide) (fun _ => ?_) (fun c => absurd (by decide) c)
      refine lv_iconst (v := nI 0) hx hb dX4_dispatch_43 (by decide) ?_
      refine lv_istore (lv' := [(4, .int (nI 0)), (0, .ref (b 0)), (1, .int (-1)), (2, .int (-1)), (3, .int (-1))]) hx hb dX4_dispatch_44 hl (by decide) rfl (fun ls hl => ?_)
      refine lv_aload_n hx hb dX4_dispatch_46 rfl (lv_at hl 1 rfl) ?_
      refine lv_iload hx hb dX4_dispatch_47 (lv_at hl 0 rfl) ?_
      refine lv_iconst (v := nI 0) hx hb dX4_dispatch_49 (by decide) ?_
      refine lv_iconst (v := nI 0) hx hb dX4_dispatch_50 (by decide) ?_
      refine wr_calli (va_runV (As := [.int (nI 0), .int (nI 0), .int (nI 0)]) (rest := []) ⟨hx, hb, hml, hown, hts⟩ (c_X4_throwing l dC dI cs b g h s.heap.size 0 0 0 hB (by decide) (by decide) (by decide)) (cwV 3 hts gX4_dispatch_X4_throwing rfl rfl rfl (by decide +kernel) ⟨Nat.le_of_ble_eq_true rfl, Nat.le_of_ble_eq_true rfl⟩) (wr_preV (q := (RX4, TX4, 29)) hP hK hD 0 rfl rfl) rfl rfl hl.1 rfl (lv_room (Nat.le_of_ble_eq_true rfl)) dX4_dispatch_51 ⟨Nat.zero_le _, Nat.zero_le _⟩) hS hD hA rfl (fun H locs hP hD hS => ?_)
      have hP : va_P (dC, dI) vwCl (wM cs b (un g 0 0) h) H := hP
      have hD : va_D A (wM cs b (un g 0 0) h) := hD
      refine W.eq (g2 := F0 m 54 ls (.int (nI 0) :: [])) rfl ?_
      have hB : m_bd (un g 0 0) := by (unfold m_bd un; simp; omega)
      refine lv_if_eq (tgt := 59) hx hb dX4_dispatch_54 (by decide) (fun _ => ?_) (fun c => absurd (by decide) c)
      refine lv_aload_n hx hb dX4_dispatch_59 rfl (lv_at hl 1 rfl) ?_
      refine va_get (D := (dC, dI)) (ci := 5) (v := .int (nI (g 10))) (C := RX4) (T := TX4) (N := 29) hx hb hts hinX4 hown hK hP 0 rfl rfl 10 (by decide) (hts (.fieldLink RX4 86 "RenameRowsModel" "rows" "I") (by decide +kernel)) (fun _ h9 => h9) rfl dX4_dispatch_60 ?_
      refine lv_aload_n hx hb dX4_dispatch_63 rfl (lv_at hl 1 rfl) ?_
      refine va_get (D := (dC, dI)) (ci := 5) (v := .int (nI (g 3))) (C := RX4) (T := TX4) (N := 29) hx hb hts hinX4 hown hK hP 0 rfl rfl 3 (by decide) (hts (.fieldLink RX4 70 "RenameRowsModel" "places" "I") (by decide +kernel)) (fun _ h9 => h9) rfl dX4_dispatch_64 ?_
      refine lv_icmp_ne (tgt := 82) hx hb dX4_dispatch_67 (by decide) (fun c_5 => ?_) (fun c_5 => absurd ((nI_eq (by omega) (by omega)).mp c_5) (by omega))
      have c_5 : ¬ (g 10) = (g 3) := fun q => c_5 ((nI_eq (by omega) (by omega)).mpr q)
      refine lv_iload_n hx hb dX4_dispatch_82 rfl (lv_at hl 4 rfl) ?_
      refine lv_if_lt (tgt := 105) hx hb dX4_dispatch_83 (by decide) (fun _ => ?_) (fun c => absurd (by decide) c)
      refine lv_iload_n hx hb dX4_dispatch_105 rfl (lv_at hl 2 rfl) ?_
      refine lv_if_ge (tgt := 113) hx hb dX4_dispatch_106 (by decide) (fun c => absurd c (by decide)) (fun _ => ?_)
      refine lv_iconst (v := (-1)) hx hb dX4_dispatch_109 (by decide) ?_
      refine lv_goto (tgt := 119) hx hb dX4_dispatch_110 (by decide) ?_
      refine lv_istore (lv' := [(5, .int (-1)), (4, .int (nI 0)), (0, .ref (b 0)), (1, .int (-1)), (2, .int (-1)), (3, .int (-1))]) hx hb dX4_dispatch_119 hl (by decide) rfl (fun ls hl => ?_)
      refine lv_iload_n hx hb dX4_dispatch_121 rfl (lv_at hl 4 rfl) ?_
      refine lv_if_ge (tgt := 129) hx hb dX4_dispatch_122 (by decide) (fun c => absurd c (by decide)) (fun _ => ?_)
      refine lv_iconst (v := (-1)) hx hb dX4_dispatch_125 (by decide) ?_
      refine lv_goto (tgt := 135) hx hb dX4_dispatch_126 (by decide) ?_
      refine lv_istore (lv' := [(6, .int (-1)), (5, .int (-1)), (4, .int (nI 0)), (0, .ref (b 0)), (1, .int (-1)), (2, .int (-1)), (3, .int (-1))]) hx hb dX4_dispatch_135 hl (by decide) rfl (fun ls hl => ?_)
      refine lv_iconst (v := (-1)) hx hb dX4_dispatch_137 (by decide) ?_
      refine lv_istore (lv' := [(7, .int (-1)), (6, .int (-1)), (5, .int (-1)), (4, .int (nI 0)), (0, .ref (b 0)), (1, .int (-1)), (2, .int (-1)), (3, .int (-1))]) hx hb dX4_dispatch_138 hl (by decide) rfl (fun ls hl => ?_)
      refine lv_iload_n hx hb dX4_dispatch_140 rfl (lv_at hl 7 rfl) ?_
      refine lv_if_lt (tgt := 166) hx hb dX4_dispatch_141 (by decide) (fun _ => ?_) (fun c => absurd (by decide) c)
      refine lv_aload_n hx hb dX4_dispatch_166 rfl (lv_at hl 4 rfl) ?_
      refine lv_iload hx hb dX4_dispatch_167 (lv_at hl 2 rfl) ?_
      refine lv_iload hx hb dX4_dispatch_169 (lv_at hl 1 rfl) ?_
      refine lv_iload hx hb dX4_dispatch_171 (lv_at hl 0 rfl) ?_
      refine lv_iload_n hx hb dX4_dispatch_173 rfl (lv_at hl 7 rfl) ?_
      refine lv_iconst (v := nI 0) hx hb dX4_dispatch_174 (by decide) ?_
      refine wr_calli (va_runV (As := [.int (-1), .int (-1), .int (-1), .int (-1), .int (nI 0)]) (rest := []) ⟨hx, hb, hml, hown, hts⟩ (c_X4_add_0 l dC dI cs b (un g 0 0) h H.size (-1) (-1) (-1) (-1) (nI 0) rfl hB (by first | omega | assumption)) (cwV 5 hts gX4_dispatch_X4_add rfl rfl rfl (by decide +kernel) ⟨Nat.le_of_ble_eq_true rfl, Nat.le_of_ble_eq_true rfl⟩) (wr_preV (q := (RX4, TX4, 29)) hP hK hD 0 rfl rfl) rfl rfl hl.1 rfl (lv_room (Nat.le_of_ble_eq_true rfl)) dX4_dispatch_175 ⟨Nat.zero_le _, Nat.zero_le _⟩) hS hD hA rfl (fun H locs hP hD hS => ?_)
      have hP : va_P (dC, dI) vwCl (wM cs b (un (un g 0 0) 10 ((g 10) + 1)) (m_aF (un g 0 0) h (-1) (-1) (-1) (-1) (-1) (nI 0))) H := hP
      have hD : va_D A (wM cs b (un (un g 0 0) 10 ((g 10) + 1)) (m_aF (un g 0 0) h (-1) (-1) (-1) (-1) (-1) (nI 0))) := hD
      have hP : va_P (dC, dI) vwCl (wM cs b (un (un g 0 0) 10 ((g 10) + 1)) (m_aF (un g 0 0) h (m_cur g h (-1)) (m_cur g h (-1)) (-1) (-1) (-1) (nI 0))) H := by
        have e9 : (wM cs b (un (un g 0 0) 10 ((g 10) + 1)) (m_aF (un g 0 0) h (-1) (-1) (-1) (-1) (-1) (nI 0))) = (wM cs b (un (un g 0 0) 10 ((g 10) + 1)) (m_aF (un g 0 0) h (m_cur g h (-1)) (m_cur g h (-1)) (-1) (-1) (-1) (nI 0))) := by first | rfl | (simp [m_cur, c_5, inB_m1])
        rw [← e9]; exact hP
      refine tp_eq (show _ = nI (m_pos g (g 10)) by first | rfl | (simp [m_cur, c_5, inB_m1])) ?_
      exact wr_iret hx hb hr hlocks hP hS dX4_dispatch_178
    · refine lv_aload_n hx hb dX4_dispatch_18 rfl (lv_at hl 0 rfl) ?_
      refine lv_iload_n hx hb dX4_dispatch_19 rfl (lv_at hl 2 rfl) ?_
      refine W.callR (W.runV (As := [.int db]) (rest := []) ⟨hx, hb, hml, hown, hts⟩ (c_X4_isRegister l dC dI cs b g h db hB) (cwV 1 hts gX4_dispatch_X4_isRegister rfl rfl rfl (by decide +kernel) ⟨Nat.le_of_ble_eq_true rfl, Nat.le_of_ble_eq_true rfl⟩) (rd_preV (q := (RX4, TX4, 29)) hP hK 0 rfl rfl) rfl rfl hl.1 rfl (lv_room (Nat.le_of_ble_eq_true rfl)) dX4_dispatch_20 ⟨Nat.zero_le _, Nat.zero_le _⟩) ?_
      refine W.eq (g2 := F0 m 23 ls (.int (b2i (inB db (g 1))) :: [])) rfl ?_
      refine lv_if_eq (tgt := 39) hx hb dX4_dispatch_23 (by decide) (fun c_10 => ?_) (fun c_10 => ?_)
      · have c_10 : inB db (g 1) = false := b2i_f c_10
        exfalso; revert v1 v2; simp [c_2, c_10, inB_m1]
      · have c_10 : inB db (g 1) = true := b2i_t c_10
        obtain ⟨jdb, hjdb, rfl⟩ := inB_t c_10 (by omega)
        refine lv_iload_n hx hb dX4_dispatch_26 rfl (lv_at hl 3 rfl) ?_
        refine lv_iconst (v := (-1)) hx hb dX4_dispatch_27 (by decide) ?_
        refine lv_icmp_eq (tgt := 43) hx hb dX4_dispatch_28 (by decide) (fun _ => ?_) (fun c => absurd (by decide) c)
        refine lv_iconst (v := nI 0) hx hb dX4_dispatch_43 (by decide) ?_
        refine lv_istore (lv' := [(4, .int (nI 0)), (0, .ref (b 0)), (1, .int (-1)), (2, .int (nI jdb)), (3, .int (-1))]) hx hb dX4_dispatch_44 hl (by decide) rfl (fun ls hl => ?_)
        refine lv_aload_n hx hb dX4_dispatch_46 rfl (lv_at hl 1 rfl) ?_
        refine lv_iload hx hb dX4_dispatch_47 (lv_at hl 0 rfl) ?_
        refine lv_iconst (v := nI 0) hx hb dX4_dispatch_49 (by decide) ?_
        refine lv_iconst (v := nI 0) hx hb dX4_dispatch_50 (by decide) ?_
        refine wr_calli (va_runV (As := [.int (nI 0), .int (nI 0), .int (nI 0)]) (rest := []) ⟨hx, hb, hml, hown, hts⟩ (c_X4_throwing l dC dI cs b g h s.heap.size 0 0 0 hB (by decide) (by decide) (by decide)) (cwV 3 hts gX4_dispatch_X4_throwing rfl rfl rfl (by decide +kernel) ⟨Nat.le_of_ble_eq_true rfl, Nat.le_of_ble_eq_true rfl⟩) (wr_preV (q := (RX4, TX4, 29)) hP hK hD 0 rfl rfl) rfl rfl hl.1 rfl (lv_room (Nat.le_of_ble_eq_true rfl)) dX4_dispatch_51 ⟨Nat.zero_le _, Nat.zero_le _⟩) hS hD hA rfl (fun H locs hP hD hS => ?_)
        have hP : va_P (dC, dI) vwCl (wM cs b (un g 0 0) h) H := hP
        have hD : va_D A (wM cs b (un g 0 0) h) := hD
        refine W.eq (g2 := F0 m 54 ls (.int (nI 0) :: [])) rfl ?_
        have hB : m_bd (un g 0 0) := by (unfold m_bd un; simp; omega)
        refine lv_if_eq (tgt := 59) hx hb dX4_dispatch_54 (by decide) (fun _ => ?_) (fun c => absurd (by decide) c)
        refine lv_aload_n hx hb dX4_dispatch_59 rfl (lv_at hl 1 rfl) ?_
        refine va_get (D := (dC, dI)) (ci := 5) (v := .int (nI (g 10))) (C := RX4) (T := TX4) (N := 29) hx hb hts hinX4 hown hK hP 0 rfl rfl 10 (by decide) (hts (.fieldLink RX4 86 "RenameRowsModel" "rows" "I") (by decide +kernel)) (fun _ h9 => h9) rfl dX4_dispatch_60 ?_
        refine lv_aload_n hx hb dX4_dispatch_63 rfl (lv_at hl 1 rfl) ?_
        refine va_get (D := (dC, dI)) (ci := 5) (v := .int (nI (g 3))) (C := RX4) (T := TX4) (N := 29) hx hb hts hinX4 hown hK hP 0 rfl rfl 3 (by decide) (hts (.fieldLink RX4 70 "RenameRowsModel" "places" "I") (by decide +kernel)) (fun _ h9 => h9) rfl dX4_dispatch_64 ?_
        refine lv_icmp_ne (tgt := 82) hx hb dX4_dispatch_67 (by decide) (fun c_13 => ?_) (fun c_13 => absurd ((nI_eq (by omega) (by omega)).mp c_13) (by omega))
        have c_13 : ¬ (g 10) = (g 3) := fun q => c_13 ((nI_eq (by omega) (by omega)).mpr q)
        refine lv_iload_n hx hb dX4_dispatch_82 rfl (lv_at hl 4 rfl) ?_
        refine lv_if_lt (tgt := 105) hx hb dX4_dispatch_83 (by decide) (fun _ => ?_) (fun c => absurd (by decide) c)
        refine lv_iload_n hx hb dX4_dispatch_105 rfl (lv_at hl 2 rfl) ?_
        refine lv_if_ge (tgt := 113) hx hb dX4_dispatch_106 (by decide) (fun c => absurd c (by decide)) (fun _ => ?_)
        refine lv_iconst (v := (-1)) hx hb dX4_dispatch_109 (by decide) ?_
        refine lv_goto (tgt := 119) hx hb dX4_dispatch_110 (by decide) ?_
        refine lv_istore (lv' := [(5, .int (-1)), (4, .int (nI 0)), (0, .ref (b 0)), (1, .int (-1)), (2, .int (nI jdb)), (3, .int (-1))]) hx hb dX4_dispatch_119 hl (by decide) rfl (fun ls hl => ?_)
        refine lv_iload_n hx hb dX4_dispatch_121 rfl (lv_at hl 4 rfl) ?_
        refine lv_if_ge (tgt := 129) hx hb dX4_dispatch_122 (by decide) (fun _ => ?_) (fun c => absurd (nI_pos' (by omega)) c)
        refine lv_aload_n hx hb dX4_dispatch_129 rfl (lv_at hl 2 rfl) ?_
        refine va_get (D := (dC, dI)) (ci := 5) (v := .ref (b 4)) (C := RX4) (T := TX4) (N := 29) hx hb hts hinX4 hown hK hP 0 rfl rfl 4 (by decide) (hts (.fieldLink RX4 7 "RenameRowsModel" "name" "[I") (by decide +kernel)) (fun _ h9 => h9) rfl dX4_dispatch_130 ?_
        refine lv_iload_n hx hb dX4_dispatch_133 rfl (lv_at hl 4 rfl) ?_
        refine ar_ld (D := (dC, dI)) (n := 32) (f := h 4) hx hb hK hP 1 0 rfl rfl (by omega) (by omega) dX4_dispatch_134 ?_
        refine lv_istore (lv' := [(6, .int (h 4 jdb)), (5, .int (-1)), (4, .int (nI 0)), (0, .ref (b 0)), (1, .int (-1)), (2, .int (nI jdb)), (3, .int (-1))]) hx hb dX4_dispatch_135 hl (by decide) rfl (fun ls hl => ?_)
        refine lv_iconst (v := (-1)) hx hb dX4_dispatch_137 (by decide) ?_
        refine lv_istore (lv' := [(7, .int (-1)), (6, .int (h 4 jdb)), (5, .int (-1)), (4, .int (nI 0)), (0, .ref (b 0)), (1, .int (-1)), (2, .int (nI jdb)), (3, .int (-1))]) hx hb dX4_dispatch_138 hl (by decide) rfl (fun ls hl => ?_)
        refine lv_iload_n hx hb dX4_dispatch_140 rfl (lv_at hl 7 rfl) ?_
        refine lv_if_lt (tgt := 166) hx hb dX4_dispatch_141 (by decide) (fun _ => ?_) (fun c => absurd (by decide) c)
        refine lv_aload_n hx hb dX4_dispatch_166 rfl (lv_at hl 4 rfl) ?_
        refine lv_iload hx hb dX4_dispatch_167 (lv_at hl 2 rfl) ?_
        refine lv_iload hx hb dX4_dispatch_169 (lv_at hl 1 rfl) ?_
        refine lv_iload hx hb dX4_dispatch_171 (lv_at hl 0 rfl) ?_
        refine lv_iload_n hx hb dX4_dispatch_173 rfl (lv_at hl 7 rfl) ?_
        refine lv_iconst (v := nI 0) hx hb dX4_dispatch_174 (by decide) ?_
        refine wr_calli (va_runV (As := [.int (-1), .int (h 4 jdb), .int (-1), .int (-1), .int (nI 0)]) (rest := []) ⟨hx, hb, hml, hown, hts⟩ (c_X4_add_0 l dC dI cs b (un g 0 0) h H.size (-1) (h 4 jdb) (-1) (-1) (nI 0) rfl hB (by first | omega | assumption)) (cwV 5 hts gX4_dispatch_X4_add rfl rfl rfl (by decide +kernel) ⟨Nat.le_of_ble_eq_true rfl, Nat.le_of_ble_eq_true rfl⟩) (wr_preV (q := (RX4, TX4, 29)) hP hK hD 0 rfl rfl) rfl rfl hl.1 rfl (lv_room (Nat.le_of_ble_eq_true rfl)) dX4_dispatch_175 ⟨Nat.zero_le _, Nat.zero_le _⟩) hS hD hA rfl (fun H locs hP hD hS => ?_)
        have hP : va_P (dC, dI) vwCl (wM cs b (un (un g 0 0) 10 ((g 10) + 1)) (m_aF (un g 0 0) h (-1) (h 4 jdb) (-1) (-1) (-1) (nI 0))) H := hP
        have hD : va_D A (wM cs b (un (un g 0 0) 10 ((g 10) + 1)) (m_aF (un g 0 0) h (-1) (h 4 jdb) (-1) (-1) (-1) (nI 0))) := hD
        have hP : va_P (dC, dI) vwCl (wM cs b (un (un g 0 0) 10 ((g 10) + 1)) (m_aF (un g 0 0) h (m_cur g h (-1)) (m_cur g h (nI jdb)) (-1) (-1) (-1) (nI 0))) H := by
          have e9 : (wM cs b (un (un g 0 0) 10 ((g 10) + 1)) (m_aF (un g 0 0) h (-1) (h 4 jdb) (-1) (-1) (-1) (nI 0))) = (wM cs b (un (un g 0 0) 10 ((g 10) + 1)) (m_aF (un g 0 0) h (m_cur g h (-1)) (m_cur g h (nI jdb)) (-1) (-1) (-1) (nI 0))) := by first | rfl | (simp [m_cur, c_2, c_10, c_13, inB_m1, cl32_nI (show jdb < 2 ^ 31 by omega)])
          rw [← e9]; exact hP
        refine tp_eq (show _ = nI (m_pos g (g 10)) by first | rfl | (simp [m_cur, c_2, c_10, c_13, inB_m1, cl32_nI (show jdb < 2 ^ 31 by omega)])) ?_
        exact wr_iret hx hb hr hlocks hP hS dX4_dispatch_178
  · refine lv_aload_n hx hb dX4_dispatch_5 rfl (lv_at hl 0 rfl) ?_
    refine lv_iload_n hx hb dX4_dispatch_6 rfl (lv_at hl 1 rfl) ?_
    refine W.callR (W.runV (As := [.int da]) (rest := []) ⟨hx, hb, hml, hown, hts⟩ (c_X4_isRegister l dC dI cs b g h da hB) (cwV 1 hts gX4_dispatch_X4_isRegister rfl rfl rfl (by decide +kernel) ⟨Nat.le_of_ble_eq_true rfl, Nat.le_of_ble_eq_true rfl⟩) (rd_preV (q := (RX4, TX4, 29)) hP hK 0 rfl rfl) rfl rfl hl.1 rfl (lv_room (Nat.le_of_ble_eq_true rfl)) dX4_dispatch_7 ⟨Nat.zero_le _, Nat.zero_le _⟩) ?_
    refine W.eq (g2 := F0 m 10 ls (.int (b2i (inB da (g 1))) :: [])) rfl ?_
    refine lv_if_eq (tgt := 39) hx hb dX4_dispatch_10 (by decide) (fun c_18 => ?_) (fun c_18 => ?_)
    · have c_18 : inB da (g 1) = false := b2i_f c_18
      exfalso; revert v1 v2; simp [c_1, c_18, inB_m1]
    · have c_18 : inB da (g 1) = true := b2i_t c_18
      obtain ⟨jda, hjda, rfl⟩ := inB_t c_18 (by omega)
      refine lv_iload_n hx hb dX4_dispatch_13 rfl (lv_at hl 2 rfl) ?_
      refine lv_iconst (v := (-1)) hx hb dX4_dispatch_14 (by decide) ?_
      refine lv_icmp_eq (tgt := 26) hx hb dX4_dispatch_15 (by decide) (fun c_19 => ?_) (fun c_19 => ?_)
      · subst c_19
        refine lv_iload_n hx hb dX4_dispatch_26 rfl (lv_at hl 3 rfl) ?_
        refine lv_iconst (v := (-1)) hx hb dX4_dispatch_27 (by decide) ?_
        refine lv_icmp_eq (tgt := 43) hx hb dX4_dispatch_28 (by decide) (fun _ => ?_) (fun c => absurd (by decide) c)
        refine lv_iconst (v := nI 0) hx hb dX4_dispatch_43 (by decide) ?_
        refine lv_istore (lv' := [(4, .int (nI 0)), (0, .ref (b 0)), (1, .int (nI jda)), (2, .int (-1)), (3, .int (-1))]) hx hb dX4_dispatch_44 hl (by decide) rfl (fun ls hl => ?_)
        refine lv_aload_n hx hb dX4_dispatch_46 rfl (lv_at hl 1 rfl) ?_
        refine lv_iload hx hb dX4_dispatch_47 (lv_at hl 0 rfl) ?_
        refine lv_iconst (v := nI 0) hx hb dX4_dispatch_49 (by decide) ?_
        refine lv_iconst (v := nI 0) hx hb dX4_dispatch_50 (by decide) ?_
        refine wr_calli (va_runV (As := [.int (nI 0), .int (nI 0), .int (nI 0)]) (rest := []) ⟨hx, hb, hml, hown, hts⟩ (c_X4_throwing l dC dI cs b g h s.heap.size 0 0 0 hB (by decide) (by decide) (by decide)) (cwV 3 hts gX4_dispatch_X4_throwing rfl rfl rfl (by decide +kernel) ⟨Nat.le_of_ble_eq_true rfl, Nat.le_of_ble_eq_true rfl⟩) (wr_preV (q := (RX4, TX4, 29)) hP hK hD 0 rfl rfl) rfl rfl hl.1 rfl (lv_room (Nat.le_of_ble_eq_true rfl)) dX4_dispatch_51 ⟨Nat.zero_le _, Nat.zero_le _⟩) hS hD hA rfl (fun H locs hP hD hS => ?_)
        have hP : va_P (dC, dI) vwCl (wM cs b (un g 0 0) h) H := hP
        have hD : va_D A (wM cs b (un g 0 0) h) := hD
        refine W.eq (g2 := F0 m 54 ls (.int (nI 0) :: [])) rfl ?_
        have hB : m_bd (un g 0 0) := by (unfold m_bd un; simp; omega)
        refine lv_if_eq (tgt := 59) hx hb dX4_dispatch_54 (by decide) (fun _ => ?_) (fun c => absurd (by decide) c)
        refine lv_aload_n hx hb dX4_dispatch_59 rfl (lv_at hl 1 rfl) ?_
        refine va_get (D := (dC, dI)) (ci := 5) (v := .int (nI (g 10))) (C := RX4) (T := TX4) (N := 29) hx hb hts hinX4 hown hK hP 0 rfl rfl 10 (by decide) (hts (.fieldLink RX4 86 "RenameRowsModel" "rows" "I") (by decide +kernel)) (fun _ h9 => h9) rfl dX4_dispatch_60 ?_
        refine lv_aload_n hx hb dX4_dispatch_63 rfl (lv_at hl 1 rfl) ?_
        refine va_get (D := (dC, dI)) (ci := 5) (v := .int (nI (g 3))) (C := RX4) (T := TX4) (N := 29) hx hb hts hinX4 hown hK hP 0 rfl rfl 3 (by decide) (hts (.fieldLink RX4 70 "RenameRowsModel" "places" "I") (by decide +kernel)) (fun _ h9 => h9) rfl dX4_dispatch_64 ?_
        refine lv_icmp_ne (tgt := 82) hx hb dX4_dispatch_67 (by decide) (fun c_22 => ?_) (fun c_22 => absurd ((nI_eq (by omega) (by omega)).mp c_22) (by omega))
        have c_22 : ¬ (g 10) = (g 3) := fun q => c_22 ((nI_eq (by omega) (by omega)).mpr q)
        refine lv_iload_n hx hb dX4_dispatch_82 rfl (lv_at hl 4 rfl) ?_
        refine lv_if_lt (tgt := 105) hx hb dX4_dispatch_83 (by decide) (fun _ => ?_) (fun c => absurd (by decide) c)
        refine lv_iload_n hx hb dX4_dispatch_105 rfl (lv_at hl 2 rfl) ?_
        refine lv_if_ge (tgt := 113) hx hb dX4_dispatch_106 (by decide) (fun _ => ?_) (fun c => absurd (nI_pos' (by omega)) c)
        refine lv_aload_n hx hb dX4_dispatch_113 rfl (lv_at hl 1 rfl) ?_
        refine va_get (D := (dC, dI)) (ci := 5) (v := .ref (b 4)) (C := RX4) (T := TX4) (N := 29) hx hb hts hinX4 hown hK hP 0 rfl rfl 4 (by decide) (hts (.fieldLink RX4 7 "RenameRowsModel" "name" "[I") (by decide +kernel)) (fun _ h9 => h9) rfl dX4_dispatch_114 ?_
        refine lv_iload_n hx hb dX4_dispatch_117 rfl (lv_at hl 2 rfl) ?_
        refine ar_ld (D := (dC, dI)) (n := 32) (f := h 4) hx hb hK hP 1 0 rfl rfl (by omega) (by omega) dX4_dispatch_118 ?_
        refine lv_istore (lv' := [(5, .int (h 4 jda)), (4, .int (nI 0)), (0, .ref (b 0)), (1, .int (nI jda)), (2, .int (-1)), (3, .int (-1))]) hx hb dX4_dispatch_119 hl (by decide) rfl (fun ls hl => ?_)
        refine lv_iload_n hx hb dX4_dispatch_121 rfl (lv_at hl 4 rfl) ?_
        refine lv_if_ge (tgt := 129) hx hb dX4_dispatch_122 (by decide) (fun c => absurd c (by decide)) (fun _ => ?_)
        refine lv_iconst (v := (-1)) hx hb dX4_dispatch_125 (by decide) ?_
        refine lv_goto (tgt := 135) hx hb dX4_dispatch_126 (by decide) ?_
        refine lv_istore (lv' := [(6, .int (-1)), (5, .int (h 4 jda)), (4, .int (nI 0)), (0, .ref (b 0)), (1, .int (nI jda)), (2, .int (-1)), (3, .int (-1))]) hx hb dX4_dispatch_135 hl (by decide) rfl (fun ls hl => ?_)
        refine lv_iconst (v := (-1)) hx hb dX4_dispatch_137 (by decide) ?_
        refine lv_istore (lv' := [(7, .int (-1)), (6, .int (-1)), (5, .int (h 4 jda)), (4, .int (nI 0)), (0, .ref (b 0)), (1, .int (nI jda)), (2, .int (-1)), (3, .int (-1))]) hx hb dX4_dispatch_138 hl (by decide) rfl (fun ls hl => ?_)
        refine lv_iload_n hx hb dX4_dispatch_140 rfl (lv_at hl 7 rfl) ?_
        refine lv_if_lt (tgt := 166) hx hb dX4_dispatch_141 (by decide) (fun _ => ?_) (fun c => absurd (by decide) c)
        refine lv_aload_n hx hb dX4_dispatch_166 rfl (lv_at hl 4 rfl) ?_
        refine lv_iload hx hb dX4_dispatch_167 (lv_at hl 2 rfl) ?_
        refine lv_iload hx hb dX4_dispatch_169 (lv_at hl 1 rfl) ?_
        refine lv_iload hx hb dX4_dispatch_171 (lv_at hl 0 rfl) ?_
        refine lv_iload_n hx hb dX4_dispatch_173 rfl (lv_at hl 7 rfl) ?_
        refine lv_iconst (v := nI 0) hx hb dX4_dispatch_174 (by decide) ?_
        refine wr_calli (va_runV (As := [.int (h 4 jda), .int (-1), .int (-1), .int (-1), .int (nI 0)]) (rest := []) ⟨hx, hb, hml, hown, hts⟩ (c_X4_add_0 l dC dI cs b (un g 0 0) h H.size (h 4 jda) (-1) (-1) (-1) (nI 0) rfl hB (by first | omega | assumption)) (cwV 5 hts gX4_dispatch_X4_add rfl rfl rfl (by decide +kernel) ⟨Nat.le_of_ble_eq_true rfl, Nat.le_of_ble_eq_true rfl⟩) (wr_preV (q := (RX4, TX4, 29)) hP hK hD 0 rfl rfl) rfl rfl hl.1 rfl (lv_room (Nat.le_of_ble_eq_true rfl)) dX4_dispatch_175 ⟨Nat.zero_le _, Nat.zero_le _⟩) hS hD hA rfl (fun H locs hP hD hS => ?_)
        have hP : va_P (dC, dI) vwCl (wM cs b (un (un g 0 0) 10 ((g 10) + 1)) (m_aF (un g 0 0) h (h 4 jda) (-1) (-1) (-1) (-1) (nI 0))) H := hP
        have hD : va_D A (wM cs b (un (un g 0 0) 10 ((g 10) + 1)) (m_aF (un g 0 0) h (h 4 jda) (-1) (-1) (-1) (-1) (nI 0))) := hD
        have hP : va_P (dC, dI) vwCl (wM cs b (un (un g 0 0) 10 ((g 10) + 1)) (m_aF (un g 0 0) h (m_cur g h (nI jda)) (m_cur g h (-1)) (-1) (-1) (-1) (nI 0))) H := by
          have e9 : (wM cs b (un (un g 0 0) 10 ((g 10) + 1)) (m_aF (un g 0 0) h (h 4 jda) (-1) (-1) (-1) (-1) (nI 0))) = (wM cs b (un (un g 0 0) 10 ((g 10) + 1)) (m_aF (un g 0 0) h (m_cur g h (nI jda)) (m_cur g h (-1)) (-1) (-1) (-1) (nI 0))) := by first | rfl | (simp [m_cur, c_1, c_18, c_22, inB_m1, cl32_nI (show jda < 2 ^ 31 by omega)])
          rw [← e9]; exact hP
        refine tp_eq (show _ = nI (m_pos g (g 10)) by first | rfl | (simp [m_cur, c_1, c_18, c_22, inB_m1, cl32_nI (show jda < 2 ^ 31 by omega)])) ?_
        exact wr_iret hx hb hr hlocks hP hS dX4_dispatch_178
      · refine lv_aload_n hx hb dX4_dispatch_18 rfl (lv_at hl 0 rfl) ?_
        refine lv_iload_n hx hb dX4_dispatch_19 rfl (lv_at hl 2 rfl) ?_
        refine W.callR (W.runV (As := [.int db]) (rest := []) ⟨hx, hb, hml, hown, hts⟩ (c_X4_isRegister l dC dI cs b g h db hB) (cwV 1 hts gX4_dispatch_X4_isRegister rfl rfl rfl (by decide +kernel) ⟨Nat.le_of_ble_eq_true rfl, Nat.le_of_ble_eq_true rfl⟩) (rd_preV (q := (RX4, TX4, 29)) hP hK 0 rfl rfl) rfl rfl hl.1 rfl (lv_room (Nat.le_of_ble_eq_true rfl)) dX4_dispatch_20 ⟨Nat.zero_le _, Nat.zero_le _⟩) ?_
        refine W.eq (g2 := F0 m 23 ls (.int (b2i (inB db (g 1))) :: [])) rfl ?_
        refine lv_if_eq (tgt := 39) hx hb dX4_dispatch_23 (by decide) (fun c_27 => ?_) (fun c_27 => ?_)
        · have c_27 : inB db (g 1) = false := b2i_f c_27
          exfalso; revert v1 v2; simp [c_1, c_18, c_19, c_27, inB_m1]
        · have c_27 : inB db (g 1) = true := b2i_t c_27
          obtain ⟨jdb, hjdb, rfl⟩ := inB_t c_27 (by omega)
          refine lv_iload_n hx hb dX4_dispatch_26 rfl (lv_at hl 3 rfl) ?_
          refine lv_iconst (v := (-1)) hx hb dX4_dispatch_27 (by decide) ?_
          refine lv_icmp_eq (tgt := 43) hx hb dX4_dispatch_28 (by decide) (fun _ => ?_) (fun c => absurd (by decide) c)
          refine lv_iconst (v := nI 0) hx hb dX4_dispatch_43 (by decide) ?_
          refine lv_istore (lv' := [(4, .int (nI 0)), (0, .ref (b 0)), (1, .int (nI jda)), (2, .int (nI jdb)), (3, .int (-1))]) hx hb dX4_dispatch_44 hl (by decide) rfl (fun ls hl => ?_)
          refine lv_aload_n hx hb dX4_dispatch_46 rfl (lv_at hl 1 rfl) ?_
          refine lv_iload hx hb dX4_dispatch_47 (lv_at hl 0 rfl) ?_
          refine lv_iconst (v := nI 0) hx hb dX4_dispatch_49 (by decide) ?_
          refine lv_iconst (v := nI 0) hx hb dX4_dispatch_50 (by decide) ?_
          refine wr_calli (va_runV (As := [.int (nI 0), .int (nI 0), .int (nI 0)]) (rest := []) ⟨hx, hb, hml, hown, hts⟩ (c_X4_throwing l dC dI cs b g h s.heap.size 0 0 0 hB (by decide) (by decide) (by decide)) (cwV 3 hts gX4_dispatch_X4_throwing rfl rfl rfl (by decide +kernel) ⟨Nat.le_of_ble_eq_true rfl, Nat.le_of_ble_eq_true rfl⟩) (wr_preV (q := (RX4, TX4, 29)) hP hK hD 0 rfl rfl) rfl rfl hl.1 rfl (lv_room (Nat.le_of_ble_eq_true rfl)) dX4_dispatch_51 ⟨Nat.zero_le _, Nat.zero_le _⟩) hS hD hA rfl (fun H locs hP hD hS => ?_)
          have hP : va_P (dC, dI) vwCl (wM cs b (un g 0 0) h) H := hP
          have hD : va_D A (wM cs b (un g 0 0) h) := hD
          refine W.eq (g2 := F0 m 54 ls (.int (nI 0) :: [])) rfl ?_
          have hB : m_bd (un g 0 0) := by (unfold m_bd un; simp; omega)
          refine lv_if_eq (tgt := 59) hx hb dX4_dispatch_54 (by decide) (fun _ => ?_) (fun c => absurd (by decide) c)
          refine lv_aload_n hx hb dX4_dispatch_59 rfl (lv_at hl 1 rfl) ?_
          refine va_get (D := (dC, dI)) (ci := 5) (v := .int (nI (g 10))) (C := RX4) (T := TX4) (N := 29) hx hb hts hinX4 hown hK hP 0 rfl rfl 10 (by decide) (hts (.fieldLink RX4 86 "RenameRowsModel" "rows" "I") (by decide +kernel)) (fun _ h9 => h9) rfl dX4_dispatch_60 ?_
          refine lv_aload_n hx hb dX4_dispatch_63 rfl (lv_at hl 1 rfl) ?_
          refine va_get (D := (dC, dI)) (ci := 5) (v := .int (nI (g 3))) (C := RX4) (T := TX4) (N := 29) hx hb hts hinX4 hown hK hP 0 rfl rfl 3 (by decide) (hts (.fieldLink RX4 70 "RenameRowsModel" "places" "I") (by decide +kernel)) (fun _ h9 => h9) rfl dX4_dispatch_64 ?_
          refine lv_icmp_ne (tgt := 82) hx hb dX4_dispatch_67 (by decide) (fun c_30 => ?_) (fun c_30 => absurd ((nI_eq (by omega) (by omega)).mp c_30) (by omega))
          have c_30 : ¬ (g 10) = (g 3) := fun q => c_30 ((nI_eq (by omega) (by omega)).mpr q)
          refine lv_iload_n hx hb dX4_dispatch_82 rfl (lv_at hl 4 rfl) ?_
          refine lv_if_lt (tgt := 105) hx hb dX4_dispatch_83 (by decide) (fun _ => ?_) (fun c => absurd (by decide) c)
          refine lv_iload_n hx hb dX4_dispatch_105 rfl (lv_at hl 2 rfl) ?_
          refine lv_if_ge (tgt := 113) hx hb dX4_dispatch_106 (by decide) (fun _ => ?_) (fun c => absurd (nI_pos' (by omega)) c)
          refine lv_aload_n hx hb dX4_dispatch_113 rfl (lv_at hl 1 rfl) ?_
          refine va_get (D := (dC, dI)) (ci := 5) (v := .ref (b 4)) (C := RX4) (T := TX4) (N := 29) hx hb hts hinX4 hown hK hP 0 rfl rfl 4 (by decide) (hts (.fieldLink RX4 7 "RenameRowsModel" "name" "[I") (by decide +kernel)) (fun _ h9 => h9) rfl dX4_dispatch_114 ?_
          refine lv_iload_n hx hb dX4_dispatch_117 rfl (lv_at hl 2 rfl) ?_
          refine ar_ld (D := (dC, dI)) (n := 32) (f := h 4) hx hb hK hP 1 0 rfl rfl (by omega) (by omega) dX4_dispatch_118 ?_
          refine lv_istore (lv' := [(5, .int (h 4 jda)), (4, .int (nI 0)), (0, .ref (b 0)), (1, .int (nI jda)), (2, .int (nI jdb)), (3, .int (-1))]) hx hb dX4_dispatch_119 hl (by decide) rfl (fun ls hl => ?_)
          refine lv_iload_n hx hb dX4_dispatch_121 rfl (lv_at hl 4 rfl) ?_
          refine lv_if_ge (tgt := 129) hx hb dX4_dispatch_122 (by decide) (fun _ => ?_) (fun c => absurd (nI_pos' (by omega)) c)
          refine lv_aload_n hx hb dX4_dispatch_129 rfl (lv_at hl 2 rfl) ?_
          refine va_get (D := (dC, dI)) (ci := 5) (v := .ref (b 4)) (C := RX4) (T := TX4) (N := 29) hx hb hts hinX4 hown hK hP 0 rfl rfl 4 (by decide) (hts (.fieldLink RX4 7 "RenameRowsModel" "name" "[I") (by decide +kernel)) (fun _ h9 => h9) rfl dX4_dispatch_130 ?_
          refine lv_iload_n hx hb dX4_dispatch_133 rfl (lv_at hl 4 rfl) ?_
          refine ar_ld (D := (dC, dI)) (n := 32) (f := h 4) hx hb hK hP 1 0 rfl rfl (by omega) (by omega) dX4_dispatch_134 ?_
          refine lv_istore (lv' := [(6, .int (h 4 jdb)), (5, .int (h 4 jda)), (4, .int (nI 0)), (0, .ref (b 0)), (1, .int (nI jda)), (2, .int (nI jdb)), (3, .int (-1))]) hx hb dX4_dispatch_135 hl (by decide) rfl (fun ls hl => ?_)
          refine lv_iconst (v := (-1)) hx hb dX4_dispatch_137 (by decide) ?_
          refine lv_istore (lv' := [(7, .int (-1)), (6, .int (h 4 jdb)), (5, .int (h 4 jda)), (4, .int (nI 0)), (0, .ref (b 0)), (1, .int (nI jda)), (2, .int (nI jdb)), (3, .int (-1))]) hx hb dX4_dispatch_138 hl (by decide) rfl (fun ls hl => ?_)
          refine lv_iload_n hx hb dX4_dispatch_140 rfl (lv_at hl 7 rfl) ?_
          refine lv_if_lt (tgt := 166) hx hb dX4_dispatch_141 (by decide) (fun _ => ?_) (fun c => absurd (by decide) c)
          refine lv_aload_n hx hb dX4_dispatch_166 rfl (lv_at hl 4 rfl) ?_
          refine lv_iload hx hb dX4_dispatch_167 (lv_at hl 2 rfl) ?_
          refine lv_iload hx hb dX4_dispatch_169 (lv_at hl 1 rfl) ?_
          refine lv_iload hx hb dX4_dispatch_171 (lv_at hl 0 rfl) ?_
          refine lv_iload_n hx hb dX4_dispatch_173 rfl (lv_at hl 7 rfl) ?_
          refine lv_iconst (v := nI 0) hx hb dX4_dispatch_174 (by decide) ?_
          refine wr_calli (va_runV (As := [.int (h 4 jda), .int (h 4 jdb), .int (-1), .int (-1), .int (nI 0)]) (rest := []) ⟨hx, hb, hml, hown, hts⟩ (c_X4_add_0 l dC dI cs b (un g 0 0) h H.size (h 4 jda) (h 4 jdb) (-1) (-1) (nI 0) rfl hB (by first | omega | assumption)) (cwV 5 hts gX4_dispatch_X4_add rfl rfl rfl (by decide +kernel) ⟨Nat.le_of_ble_eq_true rfl, Nat.le_of_ble_eq_true rfl⟩) (wr_preV (q := (RX4, TX4, 29)) hP hK hD 0 rfl rfl) rfl rfl hl.1 rfl (lv_room (Nat.le_of_ble_eq_true rfl)) dX4_dispatch_175 ⟨Nat.zero_le _, Nat.zero_le _⟩) hS hD hA rfl (fun H locs hP hD hS => ?_)
          have hP : va_P (dC, dI) vwCl (wM cs b (un (un g 0 0) 10 ((g 10) + 1)) (m_aF (un g 0 0) h (h 4 jda) (h 4 jdb) (-1) (-1) (-1) (nI 0))) H := hP
          have hD : va_D A (wM cs b (un (un g 0 0) 10 ((g 10) + 1)) (m_aF (un g 0 0) h (h 4 jda) (h 4 jdb) (-1) (-1) (-1) (nI 0))) := hD
          have hP : va_P (dC, dI) vwCl (wM cs b (un (un g 0 0) 10 ((g 10) + 1)) (m_aF (un g 0 0) h (m_cur g h (nI jda)) (m_cur g h (nI jdb)) (-1) (-1) (-1) (nI 0))) H := by
            have e9 : (wM cs b (un (un g 0 0) 10 ((g 10) + 1)) (m_aF (un g 0 0) h (h 4 jda) (h 4 jdb) (-1) (-1) (-1) (nI 0))) = (wM cs b (un (un g 0 0) 10 ((g 10) + 1)) (m_aF (un g 0 0) h (m_cur g h (nI jda)) (m_cur g h (nI jdb)) (-1) (-1) (-1) (nI 0))) := by first | rfl | (simp [m_cur, c_1, c_18, c_19, c_27, c_30, inB_m1, cl32_nI (show jda < 2 ^ 31 by omega), cl32_nI (show jdb < 2 ^ 31 by omega)])
            rw [← e9]; exact hP
          refine tp_eq (show _ = nI (m_pos g (g 10)) by first | rfl | (simp [m_cur, c_1, c_18, c_19, c_27, c_30, inB_m1, cl32_nI (show jda < 2 ^ 31 by omega), cl32_nI (show jdb < 2 ^ 31 by omega)])) ?_
          exact wr_iret hx hb hr hlocks hP hS dX4_dispatch_178

set_option maxHeartbeats 4000000 in
set_option maxRecDepth 100000 in
theorem c_X4_dispatch_give (l : Launch) (dC : Nat → ClassId) (dI : Nat → Nat → Nat) (cs : ClassId × ClassId) (b g : Nat → Nat) (h : Nat → Nat → Int32) (sz : Nat) (da : Int32) (db : Int32) (r : Nat) (v1 : (decide (da = -1) || inB da (g 1)) = true) (v2 : (decide (db = -1) || inB db (g 1)) = true) (q : Nat) (hq : h 8 0 = nI q) (hB : m_bd g) (h1 : r < g 1) (h2 : g 10 < g 3) (h3 : 0 < g 9) (h4 : q < 96)  : Met l yX4_dispatch wsX4_dispatch ({ frames := 2, cells := 0, slots := 0, locals := 46 }) (wrPc (dC, dI) vwCl (wM cs b g h) (tyl cs) sz [.ref (b 0), .int da, .int db, .int (nI r)]) (wrQ (dC, dI) vwCl (wM cs b (un (un (un g 0 0) 9 ((g 9) - 1)) 10 ((g 10) + 1)) (uf (m_aF (un (un g 0 0) 9 ((g 9) - 1)) (uf (uf (uf h 8 (x_sl (h 8) 0 (((g 9) - 1)))) 6 (upd (h 6) q (nI 1))) 7 (upd (h 7) q (nI 0))) (m_cur g h da) (m_cur g h db) (nI q) (h 4 r) (nI r) (nI 0)) 4 (upd (h 4) r (nI q)))) (some (.int (nI (m_pos g (g 10))))) (va_A (wM cs b g h) sz)) 0 0 (va_A (wM cs b g h) sz) := by
  refine wr_of (cc := cX4_dispatch) (maxL := 8) (ret := (some .int)) (own := RX4) (by decide) rfl rfl (Nat.le_of_ble_eq_true rfl) ?_
  intro p e s m below meth c A hsz hAe hx hb hr hml hts hown hlocks hP hK hD hA hS ls hl
  have hl : lv_has ls 8 [(0, .ref (b 0)), (1, .int da), (2, .int db), (3, .int (nI r))] := hl
  have hinX4 : ∀ w ∈ wsX40, w ∈ wsX4_dispatch := by decide +kernel
  obtain ⟨M1, M2, M3, M4, M5, M6, M7, M8, M9, M10, M11, M12, M13, M14, M15, M16⟩ := id hB
  refine lv_iload_n hx hb dX4_dispatch_0 rfl (lv_at hl 1 rfl) ?_
  refine lv_iconst (v := (-1)) hx hb dX4_dispatch_1 (by decide) ?_
  refine lv_icmp_eq (tgt := 13) hx hb dX4_dispatch_2 (by decide) (fun c_1 => ?_) (fun c_1 => ?_)
  · subst c_1
    refine lv_iload_n hx hb dX4_dispatch_13 rfl (lv_at hl 2 rfl) ?_
    refine lv_iconst (v := (-1)) hx hb dX4_dispatch_14 (by decide) ?_
    refine lv_icmp_eq (tgt := 26) hx hb dX4_dispatch_15 (by decide) (fun c_2 => ?_) (fun c_2 => ?_)
    · subst c_2
      refine lv_iload_n hx hb dX4_dispatch_26 rfl (lv_at hl 3 rfl) ?_
      refine lv_iconst (v := (-1)) hx hb dX4_dispatch_27 (by decide) ?_
      refine lv_icmp_eq (tgt := 43) hx hb dX4_dispatch_28 (by decide) (fun c_3 => absurd c_3 (nI_m1 (by omega))) (fun c_3 => ?_)
      refine lv_aload_n hx hb dX4_dispatch_31 rfl (lv_at hl 0 rfl) ?_
      refine lv_iload_n hx hb dX4_dispatch_32 rfl (lv_at hl 3 rfl) ?_
      refine W.callR (W.runV (As := [.int (nI r)]) (rest := []) ⟨hx, hb, hml, hown, hts⟩ (c_X4_isRegister l dC dI cs b g h (nI r) hB) (cwV 1 hts gX4_dispatch_X4_isRegister rfl rfl rfl (by decide +kernel) ⟨Nat.le_of_ble_eq_true rfl, Nat.le_of_ble_eq_true rfl⟩) (rd_preV (q := (RX4, TX4, 29)) hP hK 0 rfl rfl) rfl rfl hl.1 rfl (lv_room (Nat.le_of_ble_eq_true rfl)) dX4_dispatch_33 ⟨Nat.zero_le _, Nat.zero_le _⟩) ?_
      refine W.eq (g2 := F0 m 36 ls (.int (b2i (inB (nI r) (g 1))) :: [])) rfl ?_
      refine lv_if_ne (tgt := 43) hx hb dX4_dispatch_36 (by decide) (fun c_4 => ?_) (fun c_4 => absurd (b2i_f c_4) (by rw [inB_nI (by omega) (by omega)]; simp; omega))
      have c_4 : inB (nI r) (g 1) = true := b2i_t c_4
      refine lv_iconst (v := nI 0) hx hb dX4_dispatch_43 (by decide) ?_
      refine lv_istore (lv' := [(4, .int (nI 0)), (0, .ref (b 0)), (1, .int (-1)), (2, .int (-1)), (3, .int (nI r))]) hx hb dX4_dispatch_44 hl (by decide) rfl (fun ls hl => ?_)
      refine lv_aload_n hx hb dX4_dispatch_46 rfl (lv_at hl 1 rfl) ?_
      refine lv_iload hx hb dX4_dispatch_47 (lv_at hl 0 rfl) ?_
      refine lv_iconst (v := nI 0) hx hb dX4_dispatch_49 (by decide) ?_
      refine lv_iconst (v := nI 0) hx hb dX4_dispatch_50 (by decide) ?_
      refine wr_calli (va_runV (As := [.int (nI 0), .int (nI 0), .int (nI 0)]) (rest := []) ⟨hx, hb, hml, hown, hts⟩ (c_X4_throwing l dC dI cs b g h s.heap.size 0 0 0 hB (by decide) (by decide) (by decide)) (cwV 3 hts gX4_dispatch_X4_throwing rfl rfl rfl (by decide +kernel) ⟨Nat.le_of_ble_eq_true rfl, Nat.le_of_ble_eq_true rfl⟩) (wr_preV (q := (RX4, TX4, 29)) hP hK hD 0 rfl rfl) rfl rfl hl.1 rfl (lv_room (Nat.le_of_ble_eq_true rfl)) dX4_dispatch_51 ⟨Nat.zero_le _, Nat.zero_le _⟩) hS hD hA rfl (fun H locs hP hD hS => ?_)
      have hP : va_P (dC, dI) vwCl (wM cs b (un g 0 0) h) H := hP
      have hD : va_D A (wM cs b (un g 0 0) h) := hD
      refine W.eq (g2 := F0 m 54 ls (.int (nI 0) :: [])) rfl ?_
      have hB : m_bd (un g 0 0) := by (unfold m_bd un; simp; omega)
      refine lv_if_eq (tgt := 59) hx hb dX4_dispatch_54 (by decide) (fun _ => ?_) (fun c => absurd (by decide) c)
      refine lv_aload_n hx hb dX4_dispatch_59 rfl (lv_at hl 1 rfl) ?_
      refine va_get (D := (dC, dI)) (ci := 5) (v := .int (nI (g 10))) (C := RX4) (T := TX4) (N := 29) hx hb hts hinX4 hown hK hP 0 rfl rfl 10 (by decide) (hts (.fieldLink RX4 86 "RenameRowsModel" "rows" "I") (by decide +kernel)) (fun _ h9 => h9) rfl dX4_dispatch_60 ?_
      refine lv_aload_n hx hb dX4_dispatch_63 rfl (lv_at hl 1 rfl) ?_
      refine va_get (D := (dC, dI)) (ci := 5) (v := .int (nI (g 3))) (C := RX4) (T := TX4) (N := 29) hx hb hts hinX4 hown hK hP 0 rfl rfl 3 (by decide) (hts (.fieldLink RX4 70 "RenameRowsModel" "places" "I") (by decide +kernel)) (fun _ h9 => h9) rfl dX4_dispatch_64 ?_
      refine lv_icmp_ne (tgt := 82) hx hb dX4_dispatch_67 (by decide) (fun c_6 => ?_) (fun c_6 => absurd ((nI_eq (by omega) (by omega)).mp c_6) (by omega))
      have c_6 : ¬ (g 10) = (g 3) := fun q => c_6 ((nI_eq (by omega) (by omega)).mpr q)
      refine lv_iload_n hx hb dX4_dispatch_82 rfl (lv_at hl 4 rfl) ?_
      refine lv_if_lt (tgt := 105) hx hb dX4_dispatch_83 (by decide) (fun c => absurd c (nI_pos (by omega))) (fun _ => ?_)
      refine lv_aload_n hx hb dX4_dispatch_86 rfl (lv_at hl 1 rfl) ?_
      refine va_get (D := (dC, dI)) (ci := 5) (v := .int (nI (g 9))) (C := RX4) (T := TX4) (N := 29) hx hb hts hinX4 hown hK hP 0 rfl rfl 9 (by decide) (hts (.fieldLink RX4 73 "RenameRowsModel" "free" "I") (by decide +kernel)) (fun _ h9 => h9) rfl dX4_dispatch_87 ?_
      refine lv_if_ne (tgt := 105) hx hb dX4_dispatch_90 (by decide) (fun c_8 => ?_) (fun c_8 => absurd ((nI_z (by omega)).mp c_8) (by omega))
      have c_8 : ¬ (g 9) = 0 := fun q => c_8 ((nI_z (by omega)).mpr q)
      refine lv_iload_n hx hb dX4_dispatch_105 rfl (lv_at hl 2 rfl) ?_
      refine lv_if_ge (tgt := 113) hx hb dX4_dispatch_106 (by decide) (fun c => absurd c (by decide)) (fun _ => ?_)
      refine lv_iconst (v := (-1)) hx hb dX4_dispatch_109 (by decide) ?_
      refine lv_goto (tgt := 119) hx hb dX4_dispatch_110 (by decide) ?_
      refine lv_istore (lv' := [(5, .int (-1)), (4, .int (nI 0)), (0, .ref (b 0)), (1, .int (-1)), (2, .int (-1)), (3, .int (nI r))]) hx hb dX4_dispatch_119 hl (by decide) rfl (fun ls hl => ?_)
      refine lv_iload_n hx hb dX4_dispatch_121 rfl (lv_at hl 4 rfl) ?_
      refine lv_if_ge (tgt := 129) hx hb dX4_dispatch_122 (by decide) (fun c => absurd c (by decide)) (fun _ => ?_)
      refine lv_iconst (v := (-1)) hx hb dX4_dispatch_125 (by decide) ?_
      refine lv_goto (tgt := 135) hx hb dX4_dispatch_126 (by decide) ?_
      refine lv_istore (lv' := [(6, .int (-1)), (5, .int (-1)), (4, .int (nI 0)), (0, .ref (b 0)), (1, .int (-1)), (2, .int (-1)), (3, .int (nI r))]) hx hb dX4_dispatch_135 hl (by decide) rfl (fun ls hl => ?_)
      refine lv_iconst (v := (-1)) hx hb dX4_dispatch_137 (by decide) ?_
      refine lv_istore (lv' := [(7, .int (-1)), (6, .int (-1)), (5, .int (-1)), (4, .int (nI 0)), (0, .ref (b 0)), (1, .int (-1)), (2, .int (-1)), (3, .int (nI r))]) hx hb dX4_dispatch_138 hl (by decide) rfl (fun ls hl => ?_)
      refine lv_iload_n hx hb dX4_dispatch_140 rfl (lv_at hl 7 rfl) ?_
      refine lv_if_lt (tgt := 166) hx hb dX4_dispatch_141 (by decide) (fun c => absurd c (nI_pos (by omega))) (fun _ => ?_)
      refine lv_aload_n hx hb dX4_dispatch_144 rfl (lv_at hl 4 rfl) ?_
      refine wr_calli (va_runV (As := []) (rest := []) ⟨hx, hb, hml, hown, hts⟩ (c_X4_takeName l dC dI cs b (un g 0 0) h H.size hB (by first | omega | assumption)) (cwV 0 hts gX4_dispatch_X4_takeName rfl rfl rfl (by decide +kernel) ⟨Nat.le_of_ble_eq_true rfl, Nat.le_of_ble_eq_true rfl⟩) (wr_preV (q := (RX4, TX4, 29)) hP hK hD 0 rfl rfl) rfl rfl hl.1 rfl (lv_room (Nat.le_of_ble_eq_true rfl)) dX4_dispatch_145 ⟨Nat.zero_le _, Nat.zero_le _⟩) hS hD hA rfl (fun H locs hP hD hS => ?_)
      have hP : va_P (dC, dI) vwCl (wM cs b (un (un g 0 0) 9 ((g 9) - 1)) (uf h 8 (x_sl (h 8) 0 (((g 9) - 1))))) H := hP
      have hD : va_D A (wM cs b (un (un g 0 0) 9 ((g 9) - 1)) (uf h 8 (x_sl (h 8) 0 (((g 9) - 1))))) := hD
      have hB : m_bd (un (un g 0 0) 9 ((g 9) - 1)) := by (unfold m_bd un; simp; omega)
      refine tp_eq hq ?_
      refine lv_istore (lv' := [(7, .int (nI q)), (6, .int (-1)), (5, .int (-1)), (4, .int (nI 0)), (0, .ref (b 0)), (1, .int (-1)), (2, .int (-1)), (3, .int (nI r))]) hx hb dX4_dispatch_148 hl (by decide) rfl (fun ls hl => ?_)
      refine lv_aload_n hx hb dX4_dispatch_150 rfl (lv_at hl 4 rfl) ?_
      refine va_get (D := (dC, dI)) (ci := 5) (v := .ref (b 6)) (C := RX4) (T := TX4) (N := 29) hx hb hts hinX4 hown hK hP 0 rfl rfl 6 (by decide) (hts (.fieldLink RX4 16 "RenameRowsModel" "shares" "[I") (by decide +kernel)) (fun _ h9 => h9) rfl dX4_dispatch_151 ?_
      refine lv_iload hx hb dX4_dispatch_154 (lv_at hl 0 rfl) ?_
      refine lv_iconst (v := nI 1) hx hb dX4_dispatch_156 (by decide) ?_
      refine ar_st (D := (dC, dI)) (n := 96) (f := h 6) hx hb hK hP hD hS 3 0 rfl rfl (by omega) (by omega) dX4_dispatch_157 (fun H locs hP hD hS => ?_)
      have hP : va_P (dC, dI) vwCl (wM cs b (un (un g 0 0) 9 ((g 9) - 1)) (uf (uf h 8 (x_sl (h 8) 0 (((g 9) - 1)))) 6 (upd (h 6) q (nI 1)))) H := hP
      have hD : va_D A (wM cs b (un (un g 0 0) 9 ((g 9) - 1)) (uf (uf h 8 (x_sl (h 8) 0 (((g 9) - 1)))) 6 (upd (h 6) q (nI 1)))) := hD
      refine lv_aload_n hx hb dX4_dispatch_158 rfl (lv_at hl 4 rfl) ?_
      refine va_get (D := (dC, dI)) (ci := 5) (v := .ref (b 7)) (C := RX4) (T := TX4) (N := 29) hx hb hts hinX4 hown hK hP 0 rfl rfl 7 (by decide) (hts (.fieldLink RX4 19 "RenameRowsModel" "ready" "[Z") (by decide +kernel)) (fun _ h9 => h9) rfl dX4_dispatch_159 ?_
      refine lv_iload hx hb dX4_dispatch_162 (lv_at hl 0 rfl) ?_
      refine lv_iconst (v := nI 0) hx hb dX4_dispatch_164 (by decide) ?_
      refine ar_zst (D := (dC, dI)) (n := 96) (f := h 7) hx hb hK hP hD hS 4 1 rfl rfl (y := nI 0) (by decide) (by omega) (by omega) dX4_dispatch_165 (fun H locs hP hD hS => ?_)
      have hP : va_P (dC, dI) vwCl (wM cs b (un (un g 0 0) 9 ((g 9) - 1)) (uf (uf (uf h 8 (x_sl (h 8) 0 (((g 9) - 1)))) 6 (upd (h 6) q (nI 1))) 7 (upd (h 7) q (nI 0)))) H := hP
      have hD : va_D A (wM cs b (un (un g 0 0) 9 ((g 9) - 1)) (uf (uf (uf h 8 (x_sl (h 8) 0 (((g 9) - 1)))) 6 (upd (h 6) q (nI 1))) 7 (upd (h 7) q (nI 0)))) := hD
      refine lv_aload_n hx hb dX4_dispatch_166 rfl (lv_at hl 4 rfl) ?_
      refine lv_iload hx hb dX4_dispatch_167 (lv_at hl 2 rfl) ?_
      refine lv_iload hx hb dX4_dispatch_169 (lv_at hl 1 rfl) ?_
      refine lv_iload hx hb dX4_dispatch_171 (lv_at hl 0 rfl) ?_
      refine lv_iload_n hx hb dX4_dispatch_173 rfl (lv_at hl 7 rfl) ?_
      refine lv_iconst (v := nI 0) hx hb dX4_dispatch_174 (by decide) ?_
      refine wr_calli (va_runV (As := [.int (-1), .int (-1), .int (nI q), .int (nI r), .int (nI 0)]) (rest := []) ⟨hx, hb, hml, hown, hts⟩ (c_X4_add_r l dC dI cs b (un (un g 0 0) 9 ((g 9) - 1)) (uf (uf (uf h 8 (x_sl (h 8) 0 (((g 9) - 1)))) 6 (upd (h 6) q (nI 1))) 7 (upd (h 7) q (nI 0))) H.size (-1) (-1) (nI q) r (nI 0) hB (by first | omega | assumption) (by first | omega | assumption)) (cwV 5 hts gX4_dispatch_X4_add rfl rfl rfl (by decide +kernel) ⟨Nat.le_of_ble_eq_true rfl, Nat.le_of_ble_eq_true rfl⟩) (wr_preV (q := (RX4, TX4, 29)) hP hK hD 0 rfl rfl) rfl rfl hl.1 rfl (lv_room (Nat.le_of_ble_eq_true rfl)) dX4_dispatch_175 ⟨Nat.zero_le _, Nat.zero_le _⟩) hS hD hA rfl (fun H locs hP hD hS => ?_)
      have hP : va_P (dC, dI) vwCl (wM cs b (un (un (un g 0 0) 9 ((g 9) - 1)) 10 ((g 10) + 1)) (uf (m_aF (un (un g 0 0) 9 ((g 9) - 1)) (uf (uf (uf h 8 (x_sl (h 8) 0 (((g 9) - 1)))) 6 (upd (h 6) q (nI 1))) 7 (upd (h 7) q (nI 0))) (-1) (-1) (nI q) (h 4 r) (nI r) (nI 0)) 4 (upd (h 4) r (nI q)))) H := hP
      have hD : va_D A (wM cs b (un (un (un g 0 0) 9 ((g 9) - 1)) 10 ((g 10) + 1)) (uf (m_aF (un (un g 0 0) 9 ((g 9) - 1)) (uf (uf (uf h 8 (x_sl (h 8) 0 (((g 9) - 1)))) 6 (upd (h 6) q (nI 1))) 7 (upd (h 7) q (nI 0))) (-1) (-1) (nI q) (h 4 r) (nI r) (nI 0)) 4 (upd (h 4) r (nI q)))) := hD
      have hP : va_P (dC, dI) vwCl (wM cs b (un (un (un g 0 0) 9 ((g 9) - 1)) 10 ((g 10) + 1)) (uf (m_aF (un (un g 0 0) 9 ((g 9) - 1)) (uf (uf (uf h 8 (x_sl (h 8) 0 (((g 9) - 1)))) 6 (upd (h 6) q (nI 1))) 7 (upd (h 7) q (nI 0))) (m_cur g h (-1)) (m_cur g h (-1)) (nI q) (h 4 r) (nI r) (nI 0)) 4 (upd (h 4) r (nI q)))) H := by
        have e9 : (wM cs b (un (un (un g 0 0) 9 ((g 9) - 1)) 10 ((g 10) + 1)) (uf (m_aF (un (un g 0 0) 9 ((g 9) - 1)) (uf (uf (uf h 8 (x_sl (h 8) 0 (((g 9) - 1)))) 6 (upd (h 6) q (nI 1))) 7 (upd (h 7) q (nI 0))) (-1) (-1) (nI q) (h 4 r) (nI r) (nI 0)) 4 (upd (h 4) r (nI q)))) = (wM cs b (un (un (un g 0 0) 9 ((g 9) - 1)) 10 ((g 10) + 1)) (uf (m_aF (un (un g 0 0) 9 ((g 9) - 1)) (uf (uf (uf h 8 (x_sl (h 8) 0 (((g 9) - 1)))) 6 (upd (h 6) q (nI 1))) 7 (upd (h 7) q (nI 0))) (m_cur g h (-1)) (m_cur g h (-1)) (nI q) (h 4 r) (nI r) (nI 0)) 4 (upd (h 4) r (nI q)))) := by first | rfl | (simp [m_cur, c_3, c_4, c_6, c_8, inB_m1])
        rw [← e9]; exact hP
      refine tp_eq (show _ = nI (m_pos g (g 10)) by first | rfl | (simp [m_cur, c_3, c_4, c_6, c_8, inB_m1])) ?_
      exact wr_iret hx hb hr hlocks hP hS dX4_dispatch_178
    · refine lv_aload_n hx hb dX4_dispatch_18 rfl (lv_at hl 0 rfl) ?_
      refine lv_iload_n hx hb dX4_dispatch_19 rfl (lv_at hl 2 rfl) ?_
      refine W.callR (W.runV (As := [.int db]) (rest := []) ⟨hx, hb, hml, hown, hts⟩ (c_X4_isRegister l dC dI cs b g h db hB) (cwV 1 hts gX4_dispatch_X4_isRegister rfl rfl rfl (by decide +kernel) ⟨Nat.le_of_ble_eq_true rfl, Nat.le_of_ble_eq_true rfl⟩) (rd_preV (q := (RX4, TX4, 29)) hP hK 0 rfl rfl) rfl rfl hl.1 rfl (lv_room (Nat.le_of_ble_eq_true rfl)) dX4_dispatch_20 ⟨Nat.zero_le _, Nat.zero_le _⟩) ?_
      refine W.eq (g2 := F0 m 23 ls (.int (b2i (inB db (g 1))) :: [])) rfl ?_
      refine lv_if_eq (tgt := 39) hx hb dX4_dispatch_23 (by decide) (fun c_12 => ?_) (fun c_12 => ?_)
      · have c_12 : inB db (g 1) = false := b2i_f c_12
        exfalso; revert v1 v2; simp [c_2, c_12, inB_m1]
      · have c_12 : inB db (g 1) = true := b2i_t c_12
        obtain ⟨jdb, hjdb, rfl⟩ := inB_t c_12 (by omega)
        refine lv_iload_n hx hb dX4_dispatch_26 rfl (lv_at hl 3 rfl) ?_
        refine lv_iconst (v := (-1)) hx hb dX4_dispatch_27 (by decide) ?_
        refine lv_icmp_eq (tgt := 43) hx hb dX4_dispatch_28 (by decide) (fun c_13 => absurd c_13 (nI_m1 (by omega))) (fun c_13 => ?_)
        refine lv_aload_n hx hb dX4_dispatch_31 rfl (lv_at hl 0 rfl) ?_
        refine lv_iload_n hx hb dX4_dispatch_32 rfl (lv_at hl 3 rfl) ?_
        refine W.callR (W.runV (As := [.int (nI r)]) (rest := []) ⟨hx, hb, hml, hown, hts⟩ (c_X4_isRegister l dC dI cs b g h (nI r) hB) (cwV 1 hts gX4_dispatch_X4_isRegister rfl rfl rfl (by decide +kernel) ⟨Nat.le_of_ble_eq_true rfl, Nat.le_of_ble_eq_true rfl⟩) (rd_preV (q := (RX4, TX4, 29)) hP hK 0 rfl rfl) rfl rfl hl.1 rfl (lv_room (Nat.le_of_ble_eq_true rfl)) dX4_dispatch_33 ⟨Nat.zero_le _, Nat.zero_le _⟩) ?_
        refine W.eq (g2 := F0 m 36 ls (.int (b2i (inB (nI r) (g 1))) :: [])) rfl ?_
        refine lv_if_ne (tgt := 43) hx hb dX4_dispatch_36 (by decide) (fun c_14 => ?_) (fun c_14 => absurd (b2i_f c_14) (by rw [inB_nI (by omega) (by omega)]; simp; omega))
        have c_14 : inB (nI r) (g 1) = true := b2i_t c_14
        refine lv_iconst (v := nI 0) hx hb dX4_dispatch_43 (by decide) ?_
        refine lv_istore (lv' := [(4, .int (nI 0)), (0, .ref (b 0)), (1, .int (-1)), (2, .int (nI jdb)), (3, .int (nI r))]) hx hb dX4_dispatch_44 hl (by decide) rfl (fun ls hl => ?_)
        refine lv_aload_n hx hb dX4_dispatch_46 rfl (lv_at hl 1 rfl) ?_
        refine lv_iload hx hb dX4_dispatch_47 (lv_at hl 0 rfl) ?_
        refine lv_iconst (v := nI 0) hx hb dX4_dispatch_49 (by decide) ?_
        refine lv_iconst (v := nI 0) hx hb dX4_dispatch_50 (by decide) ?_
        refine wr_calli (va_runV (As := [.int (nI 0), .int (nI 0), .int (nI 0)]) (rest := []) ⟨hx, hb, hml, hown, hts⟩ (c_X4_throwing l dC dI cs b g h s.heap.size 0 0 0 hB (by decide) (by decide) (by decide)) (cwV 3 hts gX4_dispatch_X4_throwing rfl rfl rfl (by decide +kernel) ⟨Nat.le_of_ble_eq_true rfl, Nat.le_of_ble_eq_true rfl⟩) (wr_preV (q := (RX4, TX4, 29)) hP hK hD 0 rfl rfl) rfl rfl hl.1 rfl (lv_room (Nat.le_of_ble_eq_true rfl)) dX4_dispatch_51 ⟨Nat.zero_le _, Nat.zero_le _⟩) hS hD hA rfl (fun H locs hP hD hS => ?_)
        have hP : va_P (dC, dI) vwCl (wM cs b (un g 0 0) h) H := hP
        have hD : va_D A (wM cs b (un g 0 0) h) := hD
        refine W.eq (g2 := F0 m 54 ls (.int (nI 0) :: [])) rfl ?_
        have hB : m_bd (un g 0 0) := by (unfold m_bd un; simp; omega)
        refine lv_if_eq (tgt := 59) hx hb dX4_dispatch_54 (by decide) (fun _ => ?_) (fun c => absurd (by decide) c)
        refine lv_aload_n hx hb dX4_dispatch_59 rfl (lv_at hl 1 rfl) ?_
        refine va_get (D := (dC, dI)) (ci := 5) (v := .int (nI (g 10))) (C := RX4) (T := TX4) (N := 29) hx hb hts hinX4 hown hK hP 0 rfl rfl 10 (by decide) (hts (.fieldLink RX4 86 "RenameRowsModel" "rows" "I") (by decide +kernel)) (fun _ h9 => h9) rfl dX4_dispatch_60 ?_
        refine lv_aload_n hx hb dX4_dispatch_63 rfl (lv_at hl 1 rfl) ?_
        refine va_get (D := (dC, dI)) (ci := 5) (v := .int (nI (g 3))) (C := RX4) (T := TX4) (N := 29) hx hb hts hinX4 hown hK hP 0 rfl rfl 3 (by decide) (hts (.fieldLink RX4 70 "RenameRowsModel" "places" "I") (by decide +kernel)) (fun _ h9 => h9) rfl dX4_dispatch_64 ?_
        refine lv_icmp_ne (tgt := 82) hx hb dX4_dispatch_67 (by decide) (fun c_16 => ?_) (fun c_16 => absurd ((nI_eq (by omega) (by omega)).mp c_16) (by omega))
        have c_16 : ¬ (g 10) = (g 3) := fun q => c_16 ((nI_eq (by omega) (by omega)).mpr q)
        refine lv_iload_n hx hb dX4_dispatch_82 rfl (lv_at hl 4 rfl) ?_
        refine lv_if_lt (tgt := 105) hx hb dX4_dispatch_83 (by decide) (fun c => absurd c (nI_pos (by omega))) (fun _ => ?_)
        refine lv_aload_n hx hb dX4_dispatch_86 rfl (lv_at hl 1 rfl) ?_
        refine va_get (D := (dC, dI)) (ci := 5) (v := .int (nI (g 9))) (C := RX4) (T := TX4) (N := 29) hx hb hts hinX4 hown hK hP 0 rfl rfl 9 (by decide) (hts (.fieldLink RX4 73 "RenameRowsModel" "free" "I") (by decide +kernel)) (fun _ h9 => h9) rfl dX4_dispatch_87 ?_
        refine lv_if_ne (tgt := 105) hx hb dX4_dispatch_90 (by decide) (fun c_18 => ?_) (fun c_18 => absurd ((nI_z (by omega)).mp c_18) (by omega))
        have c_18 : ¬ (g 9) = 0 := fun q => c_18 ((nI_z (by omega)).mpr q)
        refine lv_iload_n hx hb dX4_dispatch_105 rfl (lv_at hl 2 rfl) ?_
        refine lv_if_ge (tgt := 113) hx hb dX4_dispatch_106 (by decide) (fun c => absurd c (by decide)) (fun _ => ?_)
        refine lv_iconst (v := (-1)) hx hb dX4_dispatch_109 (by decide) ?_
        refine lv_goto (tgt := 119) hx hb dX4_dispatch_110 (by decide) ?_
        refine lv_istore (lv' := [(5, .int (-1)), (4, .int (nI 0)), (0, .ref (b 0)), (1, .int (-1)), (2, .int (nI jdb)), (3, .int (nI r))]) hx hb dX4_dispatch_119 hl (by decide) rfl (fun ls hl => ?_)
        refine lv_iload_n hx hb dX4_dispatch_121 rfl (lv_at hl 4 rfl) ?_
        refine lv_if_ge (tgt := 129) hx hb dX4_dispatch_122 (by decide) (fun _ => ?_) (fun c => absurd (nI_pos' (by omega)) c)
        refine lv_aload_n hx hb dX4_dispatch_129 rfl (lv_at hl 2 rfl) ?_
        refine va_get (D := (dC, dI)) (ci := 5) (v := .ref (b 4)) (C := RX4) (T := TX4) (N := 29) hx hb hts hinX4 hown hK hP 0 rfl rfl 4 (by decide) (hts (.fieldLink RX4 7 "RenameRowsModel" "name" "[I") (by decide +kernel)) (fun _ h9 => h9) rfl dX4_dispatch_130 ?_
        refine lv_iload_n hx hb dX4_dispatch_133 rfl (lv_at hl 4 rfl) ?_
        refine ar_ld (D := (dC, dI)) (n := 32) (f := h 4) hx hb hK hP 1 0 rfl rfl (by omega) (by omega) dX4_dispatch_134 ?_
        refine lv_istore (lv' := [(6, .int (h 4 jdb)), (5, .int (-1)), (4, .int (nI 0)), (0, .ref (b 0)), (1, .int (-1)), (2, .int (nI jdb)), (3, .int (nI r))]) hx hb dX4_dispatch_135 hl (by decide) rfl (fun ls hl => ?_)
        refine lv_iconst (v := (-1)) hx hb dX4_dispatch_137 (by decide) ?_
        refine lv_istore (lv' := [(7, .int (-1)), (6, .int (h 4 jdb)), (5, .int (-1)), (4, .int (nI 0)), (0, .ref (b 0)), (1, .int (-1)), (2, .int (nI jdb)), (3, .int (nI r))]) hx hb dX4_dispatch_138 hl (by decide) rfl (fun ls hl => ?_)
        refine lv_iload_n hx hb dX4_dispatch_140 rfl (lv_at hl 7 rfl) ?_
        refine lv_if_lt (tgt := 166) hx hb dX4_dispatch_141 (by decide) (fun c => absurd c (nI_pos (by omega))) (fun _ => ?_)
        refine lv_aload_n hx hb dX4_dispatch_144 rfl (lv_at hl 4 rfl) ?_
        refine wr_calli (va_runV (As := []) (rest := []) ⟨hx, hb, hml, hown, hts⟩ (c_X4_takeName l dC dI cs b (un g 0 0) h H.size hB (by first | omega | assumption)) (cwV 0 hts gX4_dispatch_X4_takeName rfl rfl rfl (by decide +kernel) ⟨Nat.le_of_ble_eq_true rfl, Nat.le_of_ble_eq_true rfl⟩) (wr_preV (q := (RX4, TX4, 29)) hP hK hD 0 rfl rfl) rfl rfl hl.1 rfl (lv_room (Nat.le_of_ble_eq_true rfl)) dX4_dispatch_145 ⟨Nat.zero_le _, Nat.zero_le _⟩) hS hD hA rfl (fun H locs hP hD hS => ?_)
        have hP : va_P (dC, dI) vwCl (wM cs b (un (un g 0 0) 9 ((g 9) - 1)) (uf h 8 (x_sl (h 8) 0 (((g 9) - 1))))) H := hP
        have hD : va_D A (wM cs b (un (un g 0 0) 9 ((g 9) - 1)) (uf h 8 (x_sl (h 8) 0 (((g 9) - 1))))) := hD
        have hB : m_bd (un (un g 0 0) 9 ((g 9) - 1)) := by (unfold m_bd un; simp; omega)
        refine tp_eq hq ?_
        refine lv_istore (lv' := [(7, .int (nI q)), (6, .int (h 4 jdb)), (5, .int (-1)), (4, .int (nI 0)), (0, .ref (b 0)), (1, .int (-1)), (2, .int (nI jdb)), (3, .int (nI r))]) hx hb dX4_dispatch_148 hl (by decide) rfl (fun ls hl => ?_)
        refine lv_aload_n hx hb dX4_dispatch_150 rfl (lv_at hl 4 rfl) ?_
        refine va_get (D := (dC, dI)) (ci := 5) (v := .ref (b 6)) (C := RX4) (T := TX4) (N := 29) hx hb hts hinX4 hown hK hP 0 rfl rfl 6 (by decide) (hts (.fieldLink RX4 16 "RenameRowsModel" "shares" "[I") (by decide +kernel)) (fun _ h9 => h9) rfl dX4_dispatch_151 ?_
        refine lv_iload hx hb dX4_dispatch_154 (lv_at hl 0 rfl) ?_
        refine lv_iconst (v := nI 1) hx hb dX4_dispatch_156 (by decide) ?_
        refine ar_st (D := (dC, dI)) (n := 96) (f := h 6) hx hb hK hP hD hS 3 0 rfl rfl (by omega) (by omega) dX4_dispatch_157 (fun H locs hP hD hS => ?_)
        have hP : va_P (dC, dI) vwCl (wM cs b (un (un g 0 0) 9 ((g 9) - 1)) (uf (uf h 8 (x_sl (h 8) 0 (((g 9) - 1)))) 6 (upd (h 6) q (nI 1)))) H := hP
        have hD : va_D A (wM cs b (un (un g 0 0) 9 ((g 9) - 1)) (uf (uf h 8 (x_sl (h 8) 0 (((g 9) - 1)))) 6 (upd (h 6) q (nI 1)))) := hD
        refine lv_aload_n hx hb dX4_dispatch_158 rfl (lv_at hl 4 rfl) ?_
        refine va_get (D := (dC, dI)) (ci := 5) (v := .ref (b 7)) (C := RX4) (T := TX4) (N := 29) hx hb hts hinX4 hown hK hP 0 rfl rfl 7 (by decide) (hts (.fieldLink RX4 19 "RenameRowsModel" "ready" "[Z") (by decide +kernel)) (fun _ h9 => h9) rfl dX4_dispatch_159 ?_
        refine lv_iload hx hb dX4_dispatch_162 (lv_at hl 0 rfl) ?_
        refine lv_iconst (v := nI 0) hx hb dX4_dispatch_164 (by decide) ?_
        refine ar_zst (D := (dC, dI)) (n := 96) (f := h 7) hx hb hK hP hD hS 4 1 rfl rfl (y := nI 0) (by decide) (by omega) (by omega) dX4_dispatch_165 (fun H locs hP hD hS => ?_)
        have hP : va_P (dC, dI) vwCl (wM cs b (un (un g 0 0) 9 ((g 9) - 1)) (uf (uf (uf h 8 (x_sl (h 8) 0 (((g 9) - 1)))) 6 (upd (h 6) q (nI 1))) 7 (upd (h 7) q (nI 0)))) H := hP
        have hD : va_D A (wM cs b (un (un g 0 0) 9 ((g 9) - 1)) (uf (uf (uf h 8 (x_sl (h 8) 0 (((g 9) - 1)))) 6 (upd (h 6) q (nI 1))) 7 (upd (h 7) q (nI 0)))) := hD
        refine lv_aload_n hx hb dX4_dispatch_166 rfl (lv_at hl 4 rfl) ?_
        refine lv_iload hx hb dX4_dispatch_167 (lv_at hl 2 rfl) ?_
        refine lv_iload hx hb dX4_dispatch_169 (lv_at hl 1 rfl) ?_
        refine lv_iload hx hb dX4_dispatch_171 (lv_at hl 0 rfl) ?_
        refine lv_iload_n hx hb dX4_dispatch_173 rfl (lv_at hl 7 rfl) ?_
        refine lv_iconst (v := nI 0) hx hb dX4_dispatch_174 (by decide) ?_
        refine wr_calli (va_runV (As := [.int (-1), .int (h 4 jdb), .int (nI q), .int (nI r), .int (nI 0)]) (rest := []) ⟨hx, hb, hml, hown, hts⟩ (c_X4_add_r l dC dI cs b (un (un g 0 0) 9 ((g 9) - 1)) (uf (uf (uf h 8 (x_sl (h 8) 0 (((g 9) - 1)))) 6 (upd (h 6) q (nI 1))) 7 (upd (h 7) q (nI 0))) H.size (-1) (h 4 jdb) (nI q) r (nI 0) hB (by first | omega | assumption) (by first | omega | assumption)) (cwV 5 hts gX4_dispatch_X4_add rfl rfl rfl (by decide +kernel) ⟨Nat.le_of_ble_eq_true rfl, Nat.le_of_ble_eq_true rfl⟩) (wr_preV (q := (RX4, TX4, 29)) hP hK hD 0 rfl rfl) rfl rfl hl.1 rfl (lv_room (Nat.le_of_ble_eq_true rfl)) dX4_dispatch_175 ⟨Nat.zero_le _, Nat.zero_le _⟩) hS hD hA rfl (fun H locs hP hD hS => ?_)
        have hP : va_P (dC, dI) vwCl (wM cs b (un (un (un g 0 0) 9 ((g 9) - 1)) 10 ((g 10) + 1)) (uf (m_aF (un (un g 0 0) 9 ((g 9) - 1)) (uf (uf (uf h 8 (x_sl (h 8) 0 (((g 9) - 1)))) 6 (upd (h 6) q (nI 1))) 7 (upd (h 7) q (nI 0))) (-1) (h 4 jdb) (nI q) (h 4 r) (nI r) (nI 0)) 4 (upd (h 4) r (nI q)))) H := hP
        have hD : va_D A (wM cs b (un (un (un g 0 0) 9 ((g 9) - 1)) 10 ((g 10) + 1)) (uf (m_aF (un (un g 0 0) 9 ((g 9) - 1)) (uf (uf (uf h 8 (x_sl (h 8) 0 (((g 9) - 1)))) 6 (upd (h 6) q (nI 1))) 7 (upd (h 7) q (nI 0))) (-1) (h 4 jdb) (nI q) (h 4 r) (nI r) (nI 0)) 4 (upd (h 4) r (nI q)))) := hD
        have hP : va_P (dC, dI) vwCl (wM cs b (un (un (un g 0 0) 9 ((g 9) - 1)) 10 ((g 10) + 1)) (uf (m_aF (un (un g 0 0) 9 ((g 9) - 1)) (uf (uf (uf h 8 (x_sl (h 8) 0 (((g 9) - 1)))) 6 (upd (h 6) q (nI 1))) 7 (upd (h 7) q (nI 0))) (m_cur g h (-1)) (m_cur g h (nI jdb)) (nI q) (h 4 r) (nI r) (nI 0)) 4 (upd (h 4) r (nI q)))) H := by
          have e9 : (wM cs b (un (un (un g 0 0) 9 ((g 9) - 1)) 10 ((g 10) + 1)) (uf (m_aF (un (un g 0 0) 9 ((g 9) - 1)) (uf (uf (uf h 8 (x_sl (h 8) 0 (((g 9) - 1)))) 6 (upd (h 6) q (nI 1))) 7 (upd (h 7) q (nI 0))) (-1) (h 4 jdb) (nI q) (h 4 r) (nI r) (nI 0)) 4 (upd (h 4) r (nI q)))) = (wM cs b (un (un (un g 0 0) 9 ((g 9) - 1)) 10 ((g 10) + 1)) (uf (m_aF (un (un g 0 0) 9 ((g 9) - 1)) (uf (uf (uf h 8 (x_sl (h 8) 0 (((g 9) - 1)))) 6 (upd (h 6) q (nI 1))) 7 (upd (h 7) q (nI 0))) (m_cur g h (-1)) (m_cur g h (nI jdb)) (nI q) (h 4 r) (nI r) (nI 0)) 4 (upd (h 4) r (nI q)))) := by first | rfl | (simp [m_cur, c_2, c_12, c_13, c_14, c_16, c_18, inB_m1, cl32_nI (show jdb < 2 ^ 31 by omega)])
          rw [← e9]; exact hP
        refine tp_eq (show _ = nI (m_pos g (g 10)) by first | rfl | (simp [m_cur, c_2, c_12, c_13, c_14, c_16, c_18, inB_m1, cl32_nI (show jdb < 2 ^ 31 by omega)])) ?_
        exact wr_iret hx hb hr hlocks hP hS dX4_dispatch_178
  · refine lv_aload_n hx hb dX4_dispatch_5 rfl (lv_at hl 0 rfl) ?_
    refine lv_iload_n hx hb dX4_dispatch_6 rfl (lv_at hl 1 rfl) ?_
    refine W.callR (W.runV (As := [.int da]) (rest := []) ⟨hx, hb, hml, hown, hts⟩ (c_X4_isRegister l dC dI cs b g h da hB) (cwV 1 hts gX4_dispatch_X4_isRegister rfl rfl rfl (by decide +kernel) ⟨Nat.le_of_ble_eq_true rfl, Nat.le_of_ble_eq_true rfl⟩) (rd_preV (q := (RX4, TX4, 29)) hP hK 0 rfl rfl) rfl rfl hl.1 rfl (lv_room (Nat.le_of_ble_eq_true rfl)) dX4_dispatch_7 ⟨Nat.zero_le _, Nat.zero_le _⟩) ?_
    refine W.eq (g2 := F0 m 10 ls (.int (b2i (inB da (g 1))) :: [])) rfl ?_
    refine lv_if_eq (tgt := 39) hx hb dX4_dispatch_10 (by decide) (fun c_22 => ?_) (fun c_22 => ?_)
    · have c_22 : inB da (g 1) = false := b2i_f c_22
      exfalso; revert v1 v2; simp [c_1, c_22, inB_m1]
    · have c_22 : inB da (g 1) = true := b2i_t c_22
      obtain ⟨jda, hjda, rfl⟩ := inB_t c_22 (by omega)
      refine lv_iload_n hx hb dX4_dispatch_13 rfl (lv_at hl 2 rfl) ?_
      refine lv_iconst (v := (-1)) hx hb dX4_dispatch_14 (by decide) ?_
      refine lv_icmp_eq (tgt := 26) hx hb dX4_dispatch_15 (by decide) (fun c_23 => ?_) (fun c_23 => ?_)
      · subst c_23
        refine lv_iload_n hx hb dX4_dispatch_26 rfl (lv_at hl 3 rfl) ?_
        refine lv_iconst (v := (-1)) hx hb dX4_dispatch_27 (by decide) ?_
        refine lv_icmp_eq (tgt := 43) hx hb dX4_dispatch_28 (by decide) (fun c_24 => absurd c_24 (nI_m1 (by omega))) (fun c_24 => ?_)
        refine lv_aload_n hx hb dX4_dispatch_31 rfl (lv_at hl 0 rfl) ?_
        refine lv_iload_n hx hb dX4_dispatch_32 rfl (lv_at hl 3 rfl) ?_
        refine W.callR (W.runV (As := [.int (nI r)]) (rest := []) ⟨hx, hb, hml, hown, hts⟩ (c_X4_isRegister l dC dI cs b g h (nI r) hB) (cwV 1 hts gX4_dispatch_X4_isRegister rfl rfl rfl (by decide +kernel) ⟨Nat.le_of_ble_eq_true rfl, Nat.le_of_ble_eq_true rfl⟩) (rd_preV (q := (RX4, TX4, 29)) hP hK 0 rfl rfl) rfl rfl hl.1 rfl (lv_room (Nat.le_of_ble_eq_true rfl)) dX4_dispatch_33 ⟨Nat.zero_le _, Nat.zero_le _⟩) ?_
        refine W.eq (g2 := F0 m 36 ls (.int (b2i (inB (nI r) (g 1))) :: [])) rfl ?_
        refine lv_if_ne (tgt := 43) hx hb dX4_dispatch_36 (by decide) (fun c_25 => ?_) (fun c_25 => absurd (b2i_f c_25) (by rw [inB_nI (by omega) (by omega)]; simp; omega))
        have c_25 : inB (nI r) (g 1) = true := b2i_t c_25
        refine lv_iconst (v := nI 0) hx hb dX4_dispatch_43 (by decide) ?_
        refine lv_istore (lv' := [(4, .int (nI 0)), (0, .ref (b 0)), (1, .int (nI jda)), (2, .int (-1)), (3, .int (nI r))]) hx hb dX4_dispatch_44 hl (by decide) rfl (fun ls hl => ?_)
        refine lv_aload_n hx hb dX4_dispatch_46 rfl (lv_at hl 1 rfl) ?_
        refine lv_iload hx hb dX4_dispatch_47 (lv_at hl 0 rfl) ?_
        refine lv_iconst (v := nI 0) hx hb dX4_dispatch_49 (by decide) ?_
        refine lv_iconst (v := nI 0) hx hb dX4_dispatch_50 (by decide) ?_
        refine wr_calli (va_runV (As := [.int (nI 0), .int (nI 0), .int (nI 0)]) (rest := []) ⟨hx, hb, hml, hown, hts⟩ (c_X4_throwing l dC dI cs b g h s.heap.size 0 0 0 hB (by decide) (by decide) (by decide)) (cwV 3 hts gX4_dispatch_X4_throwing rfl rfl rfl (by decide +kernel) ⟨Nat.le_of_ble_eq_true rfl, Nat.le_of_ble_eq_true rfl⟩) (wr_preV (q := (RX4, TX4, 29)) hP hK hD 0 rfl rfl) rfl rfl hl.1 rfl (lv_room (Nat.le_of_ble_eq_true rfl)) dX4_dispatch_51 ⟨Nat.zero_le _, Nat.zero_le _⟩) hS hD hA rfl (fun H locs hP hD hS => ?_)
        have hP : va_P (dC, dI) vwCl (wM cs b (un g 0 0) h) H := hP
        have hD : va_D A (wM cs b (un g 0 0) h) := hD
        refine W.eq (g2 := F0 m 54 ls (.int (nI 0) :: [])) rfl ?_
        have hB : m_bd (un g 0 0) := by (unfold m_bd un; simp; omega)
        refine lv_if_eq (tgt := 59) hx hb dX4_dispatch_54 (by decide) (fun _ => ?_) (fun c => absurd (by decide) c)
        refine lv_aload_n hx hb dX4_dispatch_59 rfl (lv_at hl 1 rfl) ?_
        refine va_get (D := (dC, dI)) (ci := 5) (v := .int (nI (g 10))) (C := RX4) (T := TX4) (N := 29) hx hb hts hinX4 hown hK hP 0 rfl rfl 10 (by decide) (hts (.fieldLink RX4 86 "RenameRowsModel" "rows" "I") (by decide +kernel)) (fun _ h9 => h9) rfl dX4_dispatch_60 ?_
        refine lv_aload_n hx hb dX4_dispatch_63 rfl (lv_at hl 1 rfl) ?_
        refine va_get (D := (dC, dI)) (ci := 5) (v := .int (nI (g 3))) (C := RX4) (T := TX4) (N := 29) hx hb hts hinX4 hown hK hP 0 rfl rfl 3 (by decide) (hts (.fieldLink RX4 70 "RenameRowsModel" "places" "I") (by decide +kernel)) (fun _ h9 => h9) rfl dX4_dispatch_64 ?_
        refine lv_icmp_ne (tgt := 82) hx hb dX4_dispatch_67 (by decide) (fun c_27 => ?_) (fun c_27 => absurd ((nI_eq (by omega) (by omega)).mp c_27) (by omega))
        have c_27 : ¬ (g 10) = (g 3) := fun q => c_27 ((nI_eq (by omega) (by omega)).mpr q)
        refine lv_iload_n hx hb dX4_dispatch_82 rfl (lv_at hl 4 rfl) ?_
        refine lv_if_lt (tgt := 105) hx hb dX4_dispatch_83 (by decide) (fun c => absurd c (nI_pos (by omega))) (fun _ => ?_)
        refine lv_aload_n hx hb dX4_dispatch_86 rfl (lv_at hl 1 rfl) ?_
        refine va_get (D := (dC, dI)) (ci := 5) (v := .int (nI (g 9))) (C := RX4) (T := TX4) (N := 29) hx hb hts hinX4 hown hK hP 0 rfl rfl 9 (by decide) (hts (.fieldLink RX4 73 "RenameRowsModel" "free" "I") (by decide +kernel)) (fun _ h9 => h9) rfl dX4_dispatch_87 ?_
        refine lv_if_ne (tgt := 105) hx hb dX4_dispatch_90 (by decide) (fun c_29 => ?_) (fun c_29 => absurd ((nI_z (by omega)).mp c_29) (by omega))
        have c_29 : ¬ (g 9) = 0 := fun q => c_29 ((nI_z (by omega)).mpr q)
        refine lv_iload_n hx hb dX4_dispatch_105 rfl (lv_at hl 2 rfl) ?_
        refine lv_if_ge (tgt := 113) hx hb dX4_dispatch_106 (by decide) (fun _ => ?_) (fun c => absurd (nI_pos' (by omega)) c)
        refine lv_aload_n hx hb dX4_dispatch_113 rfl (lv_at hl 1 rfl) ?_
        refine va_get (D := (dC, dI)) (ci := 5) (v := .ref (b 4)) (C := RX4) (T := TX4) (N := 29) hx hb hts hinX4 hown hK hP 0 rfl rfl 4 (by decide) (hts (.fieldLink RX4 7 "RenameRowsModel" "name" "[I") (by decide +kernel)) (fun _ h9 => h9) rfl dX4_dispatch_114 ?_
        refine lv_iload_n hx hb dX4_dispatch_117 rfl (lv_at hl 2 rfl) ?_
        refine ar_ld (D := (dC, dI)) (n := 32) (f := h 4) hx hb hK hP 1 0 rfl rfl (by omega) (by omega) dX4_dispatch_118 ?_
        refine lv_istore (lv' := [(5, .int (h 4 jda)), (4, .int (nI 0)), (0, .ref (b 0)), (1, .int (nI jda)), (2, .int (-1)), (3, .int (nI r))]) hx hb dX4_dispatch_119 hl (by decide) rfl (fun ls hl => ?_)
        refine lv_iload_n hx hb dX4_dispatch_121 rfl (lv_at hl 4 rfl) ?_
        refine lv_if_ge (tgt := 129) hx hb dX4_dispatch_122 (by decide) (fun c => absurd c (by decide)) (fun _ => ?_)
        refine lv_iconst (v := (-1)) hx hb dX4_dispatch_125 (by decide) ?_
        refine lv_goto (tgt := 135) hx hb dX4_dispatch_126 (by decide) ?_
        refine lv_istore (lv' := [(6, .int (-1)), (5, .int (h 4 jda)), (4, .int (nI 0)), (0, .ref (b 0)), (1, .int (nI jda)), (2, .int (-1)), (3, .int (nI r))]) hx hb dX4_dispatch_135 hl (by decide) rfl (fun ls hl => ?_)
        refine lv_iconst (v := (-1)) hx hb dX4_dispatch_137 (by decide) ?_
        refine lv_istore (lv' := [(7, .int (-1)), (6, .int (-1)), (5, .int (h 4 jda)), (4, .int (nI 0)), (0, .ref (b 0)), (1, .int (nI jda)), (2, .int (-1)), (3, .int (nI r))]) hx hb dX4_dispatch_138 hl (by decide) rfl (fun ls hl => ?_)
        refine lv_iload_n hx hb dX4_dispatch_140 rfl (lv_at hl 7 rfl) ?_
        refine lv_if_lt (tgt := 166) hx hb dX4_dispatch_141 (by decide) (fun c => absurd c (nI_pos (by omega))) (fun _ => ?_)
        refine lv_aload_n hx hb dX4_dispatch_144 rfl (lv_at hl 4 rfl) ?_
        refine wr_calli (va_runV (As := []) (rest := []) ⟨hx, hb, hml, hown, hts⟩ (c_X4_takeName l dC dI cs b (un g 0 0) h H.size hB (by first | omega | assumption)) (cwV 0 hts gX4_dispatch_X4_takeName rfl rfl rfl (by decide +kernel) ⟨Nat.le_of_ble_eq_true rfl, Nat.le_of_ble_eq_true rfl⟩) (wr_preV (q := (RX4, TX4, 29)) hP hK hD 0 rfl rfl) rfl rfl hl.1 rfl (lv_room (Nat.le_of_ble_eq_true rfl)) dX4_dispatch_145 ⟨Nat.zero_le _, Nat.zero_le _⟩) hS hD hA rfl (fun H locs hP hD hS => ?_)
        have hP : va_P (dC, dI) vwCl (wM cs b (un (un g 0 0) 9 ((g 9) - 1)) (uf h 8 (x_sl (h 8) 0 (((g 9) - 1))))) H := hP
        have hD : va_D A (wM cs b (un (un g 0 0) 9 ((g 9) - 1)) (uf h 8 (x_sl (h 8) 0 (((g 9) - 1))))) := hD
        have hB : m_bd (un (un g 0 0) 9 ((g 9) - 1)) := by (unfold m_bd un; simp; omega)
        refine tp_eq hq ?_
        refine lv_istore (lv' := [(7, .int (nI q)), (6, .int (-1)), (5, .int (h 4 jda)), (4, .int (nI 0)), (0, .ref (b 0)), (1, .int (nI jda)), (2, .int (-1)), (3, .int (nI r))]) hx hb dX4_dispatch_148 hl (by decide) rfl (fun ls hl => ?_)
        refine lv_aload_n hx hb dX4_dispatch_150 rfl (lv_at hl 4 rfl) ?_
        refine va_get (D := (dC, dI)) (ci := 5) (v := .ref (b 6)) (C := RX4) (T := TX4) (N := 29) hx hb hts hinX4 hown hK hP 0 rfl rfl 6 (by decide) (hts (.fieldLink RX4 16 "RenameRowsModel" "shares" "[I") (by decide +kernel)) (fun _ h9 => h9) rfl dX4_dispatch_151 ?_
        refine lv_iload hx hb dX4_dispatch_154 (lv_at hl 0 rfl) ?_
        refine lv_iconst (v := nI 1) hx hb dX4_dispatch_156 (by decide) ?_
        refine ar_st (D := (dC, dI)) (n := 96) (f := h 6) hx hb hK hP hD hS 3 0 rfl rfl (by omega) (by omega) dX4_dispatch_157 (fun H locs hP hD hS => ?_)
        have hP : va_P (dC, dI) vwCl (wM cs b (un (un g 0 0) 9 ((g 9) - 1)) (uf (uf h 8 (x_sl (h 8) 0 (((g 9) - 1)))) 6 (upd (h 6) q (nI 1)))) H := hP
        have hD : va_D A (wM cs b (un (un g 0 0) 9 ((g 9) - 1)) (uf (uf h 8 (x_sl (h 8) 0 (((g 9) - 1)))) 6 (upd (h 6) q (nI 1)))) := hD
        refine lv_aload_n hx hb dX4_dispatch_158 rfl (lv_at hl 4 rfl) ?_
        refine va_get (D := (dC, dI)) (ci := 5) (v := .ref (b 7)) (C := RX4) (T := TX4) (N := 29) hx hb hts hinX4 hown hK hP 0 rfl rfl 7 (by decide) (hts (.fieldLink RX4 19 "RenameRowsModel" "ready" "[Z") (by decide +kernel)) (fun _ h9 => h9) rfl dX4_dispatch_159 ?_
        refine lv_iload hx hb dX4_dispatch_162 (lv_at hl 0 rfl) ?_
        refine lv_iconst (v := nI 0) hx hb dX4_dispatch_164 (by decide) ?_
        refine ar_zst (D := (dC, dI)) (n := 96) (f := h 7) hx hb hK hP hD hS 4 1 rfl rfl (y := nI 0) (by decide) (by omega) (by omega) dX4_dispatch_165 (fun H locs hP hD hS => ?_)
        have hP : va_P (dC, dI) vwCl (wM cs b (un (un g 0 0) 9 ((g 9) - 1)) (uf (uf (uf h 8 (x_sl (h 8) 0 (((g 9) - 1)))) 6 (upd (h 6) q (nI 1))) 7 (upd (h 7) q (nI 0)))) H := hP
        have hD : va_D A (wM cs b (un (un g 0 0) 9 ((g 9) - 1)) (uf (uf (uf h 8 (x_sl (h 8) 0 (((g 9) - 1)))) 6 (upd (h 6) q (nI 1))) 7 (upd (h 7) q (nI 0)))) := hD
        refine lv_aload_n hx hb dX4_dispatch_166 rfl (lv_at hl 4 rfl) ?_
        refine lv_iload hx hb dX4_dispatch_167 (lv_at hl 2 rfl) ?_
        refine lv_iload hx hb dX4_dispatch_169 (lv_at hl 1 rfl) ?_
        refine lv_iload hx hb dX4_dispatch_171 (lv_at hl 0 rfl) ?_
        refine lv_iload_n hx hb dX4_dispatch_173 rfl (lv_at hl 7 rfl) ?_
        refine lv_iconst (v := nI 0) hx hb dX4_dispatch_174 (by decide) ?_
        refine wr_calli (va_runV (As := [.int (h 4 jda), .int (-1), .int (nI q), .int (nI r), .int (nI 0)]) (rest := []) ⟨hx, hb, hml, hown, hts⟩ (c_X4_add_r l dC dI cs b (un (un g 0 0) 9 ((g 9) - 1)) (uf (uf (uf h 8 (x_sl (h 8) 0 (((g 9) - 1)))) 6 (upd (h 6) q (nI 1))) 7 (upd (h 7) q (nI 0))) H.size (h 4 jda) (-1) (nI q) r (nI 0) hB (by first | omega | assumption) (by first | omega | assumption)) (cwV 5 hts gX4_dispatch_X4_add rfl rfl rfl (by decide +kernel) ⟨Nat.le_of_ble_eq_true rfl, Nat.le_of_ble_eq_true rfl⟩) (wr_preV (q := (RX4, TX4, 29)) hP hK hD 0 rfl rfl) rfl rfl hl.1 rfl (lv_room (Nat.le_of_ble_eq_true rfl)) dX4_dispatch_175 ⟨Nat.zero_le _, Nat.zero_le _⟩) hS hD hA rfl (fun H locs hP hD hS => ?_)
        have hP : va_P (dC, dI) vwCl (wM cs b (un (un (un g 0 0) 9 ((g 9) - 1)) 10 ((g 10) + 1)) (uf (m_aF (un (un g 0 0) 9 ((g 9) - 1)) (uf (uf (uf h 8 (x_sl (h 8) 0 (((g 9) - 1)))) 6 (upd (h 6) q (nI 1))) 7 (upd (h 7) q (nI 0))) (h 4 jda) (-1) (nI q) (h 4 r) (nI r) (nI 0)) 4 (upd (h 4) r (nI q)))) H := hP
        have hD : va_D A (wM cs b (un (un (un g 0 0) 9 ((g 9) - 1)) 10 ((g 10) + 1)) (uf (m_aF (un (un g 0 0) 9 ((g 9) - 1)) (uf (uf (uf h 8 (x_sl (h 8) 0 (((g 9) - 1)))) 6 (upd (h 6) q (nI 1))) 7 (upd (h 7) q (nI 0))) (h 4 jda) (-1) (nI q) (h 4 r) (nI r) (nI 0)) 4 (upd (h 4) r (nI q)))) := hD
        have hP : va_P (dC, dI) vwCl (wM cs b (un (un (un g 0 0) 9 ((g 9) - 1)) 10 ((g 10) + 1)) (uf (m_aF (un (un g 0 0) 9 ((g 9) - 1)) (uf (uf (uf h 8 (x_sl (h 8) 0 (((g 9) - 1)))) 6 (upd (h 6) q (nI 1))) 7 (upd (h 7) q (nI 0))) (m_cur g h (nI jda)) (m_cur g h (-1)) (nI q) (h 4 r) (nI r) (nI 0)) 4 (upd (h 4) r (nI q)))) H := by
          have e9 : (wM cs b (un (un (un g 0 0) 9 ((g 9) - 1)) 10 ((g 10) + 1)) (uf (m_aF (un (un g 0 0) 9 ((g 9) - 1)) (uf (uf (uf h 8 (x_sl (h 8) 0 (((g 9) - 1)))) 6 (upd (h 6) q (nI 1))) 7 (upd (h 7) q (nI 0))) (h 4 jda) (-1) (nI q) (h 4 r) (nI r) (nI 0)) 4 (upd (h 4) r (nI q)))) = (wM cs b (un (un (un g 0 0) 9 ((g 9) - 1)) 10 ((g 10) + 1)) (uf (m_aF (un (un g 0 0) 9 ((g 9) - 1)) (uf (uf (uf h 8 (x_sl (h 8) 0 (((g 9) - 1)))) 6 (upd (h 6) q (nI 1))) 7 (upd (h 7) q (nI 0))) (m_cur g h (nI jda)) (m_cur g h (-1)) (nI q) (h 4 r) (nI r) (nI 0)) 4 (upd (h 4) r (nI q)))) := by first | rfl | (simp [m_cur, c_1, c_22, c_24, c_25, c_27, c_29, inB_m1, cl32_nI (show jda < 2 ^ 31 by omega)])
          rw [← e9]; exact hP
        refine tp_eq (show _ = nI (m_pos g (g 10)) by first | rfl | (simp [m_cur, c_1, c_22, c_24, c_25, c_27, c_29, inB_m1, cl32_nI (show jda < 2 ^ 31 by omega)])) ?_
        exact wr_iret hx hb hr hlocks hP hS dX4_dispatch_178
      · refine lv_aload_n hx hb dX4_dispatch_18 rfl (lv_at hl 0 rfl) ?_
        refine lv_iload_n hx hb dX4_dispatch_19 rfl (lv_at hl 2 rfl) ?_
        refine W.callR (W.runV (As := [.int db]) (rest := []) ⟨hx, hb, hml, hown, hts⟩ (c_X4_isRegister l dC dI cs b g h db hB) (cwV 1 hts gX4_dispatch_X4_isRegister rfl rfl rfl (by decide +kernel) ⟨Nat.le_of_ble_eq_true rfl, Nat.le_of_ble_eq_true rfl⟩) (rd_preV (q := (RX4, TX4, 29)) hP hK 0 rfl rfl) rfl rfl hl.1 rfl (lv_room (Nat.le_of_ble_eq_true rfl)) dX4_dispatch_20 ⟨Nat.zero_le _, Nat.zero_le _⟩) ?_
        refine W.eq (g2 := F0 m 23 ls (.int (b2i (inB db (g 1))) :: [])) rfl ?_
        refine lv_if_eq (tgt := 39) hx hb dX4_dispatch_23 (by decide) (fun c_33 => ?_) (fun c_33 => ?_)
        · have c_33 : inB db (g 1) = false := b2i_f c_33
          exfalso; revert v1 v2; simp [c_1, c_22, c_23, c_33, inB_m1]
        · have c_33 : inB db (g 1) = true := b2i_t c_33
          obtain ⟨jdb, hjdb, rfl⟩ := inB_t c_33 (by omega)
          refine lv_iload_n hx hb dX4_dispatch_26 rfl (lv_at hl 3 rfl) ?_
          refine lv_iconst (v := (-1)) hx hb dX4_dispatch_27 (by decide) ?_
          refine lv_icmp_eq (tgt := 43) hx hb dX4_dispatch_28 (by decide) (fun c_34 => absurd c_34 (nI_m1 (by omega))) (fun c_34 => ?_)
          refine lv_aload_n hx hb dX4_dispatch_31 rfl (lv_at hl 0 rfl) ?_
          refine lv_iload_n hx hb dX4_dispatch_32 rfl (lv_at hl 3 rfl) ?_
          refine W.callR (W.runV (As := [.int (nI r)]) (rest := []) ⟨hx, hb, hml, hown, hts⟩ (c_X4_isRegister l dC dI cs b g h (nI r) hB) (cwV 1 hts gX4_dispatch_X4_isRegister rfl rfl rfl (by decide +kernel) ⟨Nat.le_of_ble_eq_true rfl, Nat.le_of_ble_eq_true rfl⟩) (rd_preV (q := (RX4, TX4, 29)) hP hK 0 rfl rfl) rfl rfl hl.1 rfl (lv_room (Nat.le_of_ble_eq_true rfl)) dX4_dispatch_33 ⟨Nat.zero_le _, Nat.zero_le _⟩) ?_
          refine W.eq (g2 := F0 m 36 ls (.int (b2i (inB (nI r) (g 1))) :: [])) rfl ?_
          refine lv_if_ne (tgt := 43) hx hb dX4_dispatch_36 (by decide) (fun c_35 => ?_) (fun c_35 => absurd (b2i_f c_35) (by rw [inB_nI (by omega) (by omega)]; simp; omega))
          have c_35 : inB (nI r) (g 1) = true := b2i_t c_35
          refine lv_iconst (v := nI 0) hx hb dX4_dispatch_43 (by decide) ?_
          refine lv_istore (lv' := [(4, .int (nI 0)), (0, .ref (b 0)), (1, .int (nI jda)), (2, .int (nI jdb)), (3, .int (nI r))]) hx hb dX4_dispatch_44 hl (by decide) rfl (fun ls hl => ?_)
          refine lv_aload_n hx hb dX4_dispatch_46 rfl (lv_at hl 1 rfl) ?_
          refine lv_iload hx hb dX4_dispatch_47 (lv_at hl 0 rfl) ?_
          refine lv_iconst (v := nI 0) hx hb dX4_dispatch_49 (by decide) ?_
          refine lv_iconst (v := nI 0) hx hb dX4_dispatch_50 (by decide) ?_
          refine wr_calli (va_runV (As := [.int (nI 0), .int (nI 0), .int (nI 0)]) (rest := []) ⟨hx, hb, hml, hown, hts⟩ (c_X4_throwing l dC dI cs b g h s.heap.size 0 0 0 hB (by decide) (by decide) (by decide)) (cwV 3 hts gX4_dispatch_X4_throwing rfl rfl rfl (by decide +kernel) ⟨Nat.le_of_ble_eq_true rfl, Nat.le_of_ble_eq_true rfl⟩) (wr_preV (q := (RX4, TX4, 29)) hP hK hD 0 rfl rfl) rfl rfl hl.1 rfl (lv_room (Nat.le_of_ble_eq_true rfl)) dX4_dispatch_51 ⟨Nat.zero_le _, Nat.zero_le _⟩) hS hD hA rfl (fun H locs hP hD hS => ?_)
          have hP : va_P (dC, dI) vwCl (wM cs b (un g 0 0) h) H := hP
          have hD : va_D A (wM cs b (un g 0 0) h) := hD
          refine W.eq (g2 := F0 m 54 ls (.int (nI 0) :: [])) rfl ?_
          have hB : m_bd (un g 0 0) := by (unfold m_bd un; simp; omega)
          refine lv_if_eq (tgt := 59) hx hb dX4_dispatch_54 (by decide) (fun _ => ?_) (fun c => absurd (by decide) c)
          refine lv_aload_n hx hb dX4_dispatch_59 rfl (lv_at hl 1 rfl) ?_
          refine va_get (D := (dC, dI)) (ci := 5) (v := .int (nI (g 10))) (C := RX4) (T := TX4) (N := 29) hx hb hts hinX4 hown hK hP 0 rfl rfl 10 (by decide) (hts (.fieldLink RX4 86 "RenameRowsModel" "rows" "I") (by decide +kernel)) (fun _ h9 => h9) rfl dX4_dispatch_60 ?_
          refine lv_aload_n hx hb dX4_dispatch_63 rfl (lv_at hl 1 rfl) ?_
          refine va_get (D := (dC, dI)) (ci := 5) (v := .int (nI (g 3))) (C := RX4) (T := TX4) (N := 29) hx hb hts hinX4 hown hK hP 0 rfl rfl 3 (by decide) (hts (.fieldLink RX4 70 "RenameRowsModel" "places" "I") (by decide +kernel)) (fun _ h9 => h9) rfl dX4_dispatch_64 ?_
          refine lv_icmp_ne (tgt := 82) hx hb dX4_dispatch_67 (by decide) (fun c_37 => ?_) (fun c_37 => absurd ((nI_eq (by omega) (by omega)).mp c_37) (by omega))
          have c_37 : ¬ (g 10) = (g 3) := fun q => c_37 ((nI_eq (by omega) (by omega)).mpr q)
          refine lv_iload_n hx hb dX4_dispatch_82 rfl (lv_at hl 4 rfl) ?_
          refine lv_if_lt (tgt := 105) hx hb dX4_dispatch_83 (by decide) (fun c => absurd c (nI_pos (by omega))) (fun _ => ?_)
          refine lv_aload_n hx hb dX4_dispatch_86 rfl (lv_at hl 1 rfl) ?_
          refine va_get (D := (dC, dI)) (ci := 5) (v := .int (nI (g 9))) (C := RX4) (T := TX4) (N := 29) hx hb hts hinX4 hown hK hP 0 rfl rfl 9 (by decide) (hts (.fieldLink RX4 73 "RenameRowsModel" "free" "I") (by decide +kernel)) (fun _ h9 => h9) rfl dX4_dispatch_87 ?_
          refine lv_if_ne (tgt := 105) hx hb dX4_dispatch_90 (by decide) (fun c_39 => ?_) (fun c_39 => absurd ((nI_z (by omega)).mp c_39) (by omega))
          have c_39 : ¬ (g 9) = 0 := fun q => c_39 ((nI_z (by omega)).mpr q)
          refine lv_iload_n hx hb dX4_dispatch_105 rfl (lv_at hl 2 rfl) ?_
          refine lv_if_ge (tgt := 113) hx hb dX4_dispatch_106 (by decide) (fun _ => ?_) (fun c => absurd (nI_pos' (by omega)) c)
          refine lv_aload_n hx hb dX4_dispatch_113 rfl (lv_at hl 1 rfl) ?_
          refine va_get (D := (dC, dI)) (ci := 5) (v := .ref (b 4)) (C := RX4) (T := TX4) (N := 29) hx hb hts hinX4 hown hK hP 0 rfl rfl 4 (by decide) (hts (.fieldLink RX4 7 "RenameRowsModel" "name" "[I") (by decide +kernel)) (fun _ h9 => h9) rfl dX4_dispatch_114 ?_
          refine lv_iload_n hx hb dX4_dispatch_117 rfl (lv_at hl 2 rfl) ?_
          refine ar_ld (D := (dC, dI)) (n := 32) (f := h 4) hx hb hK hP 1 0 rfl rfl (by omega) (by omega) dX4_dispatch_118 ?_
          refine lv_istore (lv' := [(5, .int (h 4 jda)), (4, .int (nI 0)), (0, .ref (b 0)), (1, .int (nI jda)), (2, .int (nI jdb)), (3, .int (nI r))]) hx hb dX4_dispatch_119 hl (by decide) rfl (fun ls hl => ?_)
          refine lv_iload_n hx hb dX4_dispatch_121 rfl (lv_at hl 4 rfl) ?_
          refine lv_if_ge (tgt := 129) hx hb dX4_dispatch_122 (by decide) (fun _ => ?_) (fun c => absurd (nI_pos' (by omega)) c)
          refine lv_aload_n hx hb dX4_dispatch_129 rfl (lv_at hl 2 rfl) ?_
          refine va_get (D := (dC, dI)) (ci := 5) (v := .ref (b 4)) (C := RX4) (T := TX4) (N := 29) hx hb hts hinX4 hown hK hP 0 rfl rfl 4 (by decide) (hts (.fieldLink RX4 7 "RenameRowsModel" "name" "[I") (by decide +kernel)) (fun _ h9 => h9) rfl dX4_dispatch_130 ?_
          refine lv_iload_n hx hb dX4_dispatch_133 rfl (lv_at hl 4 rfl) ?_
          refine ar_ld (D := (dC, dI)) (n := 32) (f := h 4) hx hb hK hP 1 0 rfl rfl (by omega) (by omega) dX4_dispatch_134 ?_
          refine lv_istore (lv' := [(6, .int (h 4 jdb)), (5, .int (h 4 jda)), (4, .int (nI 0)), (0, .ref (b 0)), (1, .int (nI jda)), (2, .int (nI jdb)), (3, .int (nI r))]) hx hb dX4_dispatch_135 hl (by decide) rfl (fun ls hl => ?_)
          refine lv_iconst (v := (-1)) hx hb dX4_dispatch_137 (by decide) ?_
          refine lv_istore (lv' := [(7, .int (-1)), (6, .int (h 4 jdb)), (5, .int (h 4 jda)), (4, .int (nI 0)), (0, .ref (b 0)), (1, .int (nI jda)), (2, .int (nI jdb)), (3, .int (nI r))]) hx hb dX4_dispatch_138 hl (by decide) rfl (fun ls hl => ?_)
          refine lv_iload_n hx hb dX4_dispatch_140 rfl (lv_at hl 7 rfl) ?_
          refine lv_if_lt (tgt := 166) hx hb dX4_dispatch_141 (by decide) (fun c => absurd c (nI_pos (by omega))) (fun _ => ?_)
          refine lv_aload_n hx hb dX4_dispatch_144 rfl (lv_at hl 4 rfl) ?_
          refine wr_calli (va_runV (As := []) (rest := []) ⟨hx, hb, hml, hown, hts⟩ (c_X4_takeName l dC dI cs b (un g 0 0) h H.size hB (by first | omega | assumption)) (cwV 0 hts gX4_dispatch_X4_takeName rfl rfl rfl (by decide +kernel) ⟨Nat.le_of_ble_eq_true rfl, Nat.le_of_ble_eq_true rfl⟩) (wr_preV (q := (RX4, TX4, 29)) hP hK hD 0 rfl rfl) rfl rfl hl.1 rfl (lv_room (Nat.le_of_ble_eq_true rfl)) dX4_dispatch_145 ⟨Nat.zero_le _, Nat.zero_le _⟩) hS hD hA rfl (fun H locs hP hD hS => ?_)
          have hP : va_P (dC, dI) vwCl (wM cs b (un (un g 0 0) 9 ((g 9) - 1)) (uf h 8 (x_sl (h 8) 0 (((g 9) - 1))))) H := hP
          have hD : va_D A (wM cs b (un (un g 0 0) 9 ((g 9) - 1)) (uf h 8 (x_sl (h 8) 0 (((g 9) - 1))))) := hD
          have hB : m_bd (un (un g 0 0) 9 ((g 9) - 1)) := by (unfold m_bd un; simp; omega)
          refine tp_eq hq ?_
          refine lv_istore (lv' := [(7, .int (nI q)), (6, .int (h 4 jdb)), (5, .int (h 4 jda)), (4, .int (nI 0)), (0, .ref (b 0)), (1, .int (nI jda)), (2, .int (nI jdb)), (3, .int (nI r))]) hx hb dX4_dispatch_148 hl (by decide) rfl (fun ls hl => ?_)
          refine lv_aload_n hx hb dX4_dispatch_150 rfl (lv_at hl 4 rfl) ?_
          refine va_get (D := (dC, dI)) (ci := 5) (v := .ref (b 6)) (C := RX4) (T := TX4) (N := 29) hx hb hts hinX4 hown hK hP 0 rfl rfl 6 (by decide) (hts (.fieldLink RX4 16 "RenameRowsModel" "shares" "[I") (by decide +kernel)) (fun _ h9 => h9) rfl dX4_dispatch_151 ?_
          refine lv_iload hx hb dX4_dispatch_154 (lv_at hl 0 rfl) ?_
          refine lv_iconst (v := nI 1) hx hb dX4_dispatch_156 (by decide) ?_
          refine ar_st (D := (dC, dI)) (n := 96) (f := h 6) hx hb hK hP hD hS 3 0 rfl rfl (by omega) (by omega) dX4_dispatch_157 (fun H locs hP hD hS => ?_)
          have hP : va_P (dC, dI) vwCl (wM cs b (un (un g 0 0) 9 ((g 9) - 1)) (uf (uf h 8 (x_sl (h 8) 0 (((g 9) - 1)))) 6 (upd (h 6) q (nI 1)))) H := hP
          have hD : va_D A (wM cs b (un (un g 0 0) 9 ((g 9) - 1)) (uf (uf h 8 (x_sl (h 8) 0 (((g 9) - 1)))) 6 (upd (h 6) q (nI 1)))) := hD
          refine lv_aload_n hx hb dX4_dispatch_158 rfl (lv_at hl 4 rfl) ?_
          refine va_get (D := (dC, dI)) (ci := 5) (v := .ref (b 7)) (C := RX4) (T := TX4) (N := 29) hx hb hts hinX4 hown hK hP 0 rfl rfl 7 (by decide) (hts (.fieldLink RX4 19 "RenameRowsModel" "ready" "[Z") (by decide +kernel)) (fun _ h9 => h9) rfl dX4_dispatch_159 ?_
          refine lv_iload hx hb dX4_dispatch_162 (lv_at hl 0 rfl) ?_
          refine lv_iconst (v := nI 0) hx hb dX4_dispatch_164 (by decide) ?_
          refine ar_zst (D := (dC, dI)) (n := 96) (f := h 7) hx hb hK hP hD hS 4 1 rfl rfl (y := nI 0) (by decide) (by omega) (by omega) dX4_dispatch_165 (fun H locs hP hD hS => ?_)
          have hP : va_P (dC, dI) vwCl (wM cs b (un (un g 0 0) 9 ((g 9) - 1)) (uf (uf (uf h 8 (x_sl (h 8) 0 (((g 9) - 1)))) 6 (upd (h 6) q (nI 1))) 7 (upd (h 7) q (nI 0)))) H := hP
          have hD : va_D A (wM cs b (un (un g 0 0) 9 ((g 9) - 1)) (uf (uf (uf h 8 (x_sl (h 8) 0 (((g 9) - 1)))) 6 (upd (h 6) q (nI 1))) 7 (upd (h 7) q (nI 0)))) := hD
          refine lv_aload_n hx hb dX4_dispatch_166 rfl (lv_at hl 4 rfl) ?_
          refine lv_iload hx hb dX4_dispatch_167 (lv_at hl 2 rfl) ?_
          refine lv_iload hx hb dX4_dispatch_169 (lv_at hl 1 rfl) ?_
          refine lv_iload hx hb dX4_dispatch_171 (lv_at hl 0 rfl) ?_
          refine lv_iload_n hx hb dX4_dispatch_173 rfl (lv_at hl 7 rfl) ?_
          refine lv_iconst (v := nI 0) hx hb dX4_dispatch_174 (by decide) ?_
          refine wr_calli (va_runV (As := [.int (h 4 jda), .int (h 4 jdb), .int (nI q), .int (nI r), .int (nI 0)]) (rest := []) ⟨hx, hb, hml, hown, hts⟩ (c_X4_add_r l dC dI cs b (un (un g 0 0) 9 ((g 9) - 1)) (uf (uf (uf h 8 (x_sl (h 8) 0 (((g 9) - 1)))) 6 (upd (h 6) q (nI 1))) 7 (upd (h 7) q (nI 0))) H.size (h 4 jda) (h 4 jdb) (nI q) r (nI 0) hB (by first | omega | assumption) (by first | omega | assumption)) (cwV 5 hts gX4_dispatch_X4_add rfl rfl rfl (by decide +kernel) ⟨Nat.le_of_ble_eq_true rfl, Nat.le_of_ble_eq_true rfl⟩) (wr_preV (q := (RX4, TX4, 29)) hP hK hD 0 rfl rfl) rfl rfl hl.1 rfl (lv_room (Nat.le_of_ble_eq_true rfl)) dX4_dispatch_175 ⟨Nat.zero_le _, Nat.zero_le _⟩) hS hD hA rfl (fun H locs hP hD hS => ?_)
          have hP : va_P (dC, dI) vwCl (wM cs b (un (un (un g 0 0) 9 ((g 9) - 1)) 10 ((g 10) + 1)) (uf (m_aF (un (un g 0 0) 9 ((g 9) - 1)) (uf (uf (uf h 8 (x_sl (h 8) 0 (((g 9) - 1)))) 6 (upd (h 6) q (nI 1))) 7 (upd (h 7) q (nI 0))) (h 4 jda) (h 4 jdb) (nI q) (h 4 r) (nI r) (nI 0)) 4 (upd (h 4) r (nI q)))) H := hP
          have hD : va_D A (wM cs b (un (un (un g 0 0) 9 ((g 9) - 1)) 10 ((g 10) + 1)) (uf (m_aF (un (un g 0 0) 9 ((g 9) - 1)) (uf (uf (uf h 8 (x_sl (h 8) 0 (((g 9) - 1)))) 6 (upd (h 6) q (nI 1))) 7 (upd (h 7) q (nI 0))) (h 4 jda) (h 4 jdb) (nI q) (h 4 r) (nI r) (nI 0)) 4 (upd (h 4) r (nI q)))) := hD
          have hP : va_P (dC, dI) vwCl (wM cs b (un (un (un g 0 0) 9 ((g 9) - 1)) 10 ((g 10) + 1)) (uf (m_aF (un (un g 0 0) 9 ((g 9) - 1)) (uf (uf (uf h 8 (x_sl (h 8) 0 (((g 9) - 1)))) 6 (upd (h 6) q (nI 1))) 7 (upd (h 7) q (nI 0))) (m_cur g h (nI jda)) (m_cur g h (nI jdb)) (nI q) (h 4 r) (nI r) (nI 0)) 4 (upd (h 4) r (nI q)))) H := by
            have e9 : (wM cs b (un (un (un g 0 0) 9 ((g 9) - 1)) 10 ((g 10) + 1)) (uf (m_aF (un (un g 0 0) 9 ((g 9) - 1)) (uf (uf (uf h 8 (x_sl (h 8) 0 (((g 9) - 1)))) 6 (upd (h 6) q (nI 1))) 7 (upd (h 7) q (nI 0))) (h 4 jda) (h 4 jdb) (nI q) (h 4 r) (nI r) (nI 0)) 4 (upd (h 4) r (nI q)))) = (wM cs b (un (un (un g 0 0) 9 ((g 9) - 1)) 10 ((g 10) + 1)) (uf (m_aF (un (un g 0 0) 9 ((g 9) - 1)) (uf (uf (uf h 8 (x_sl (h 8) 0 (((g 9) - 1)))) 6 (upd (h 6) q (nI 1))) 7 (upd (h 7) q (nI 0))) (m_cur g h (nI jda)) (m_cur g h (nI jdb)) (nI q) (h 4 r) (nI r) (nI 0)) 4 (upd (h 4) r (nI q)))) := by first | rfl | (simp [m_cur, c_1, c_22, c_23, c_33, c_34, c_35, c_37, c_39, inB_m1, cl32_nI (show jda < 2 ^ 31 by omega), cl32_nI (show jdb < 2 ^ 31 by omega)])
            rw [← e9]; exact hP
          refine tp_eq (show _ = nI (m_pos g (g 10)) by first | rfl | (simp [m_cur, c_1, c_22, c_23, c_33, c_34, c_35, c_37, c_39, inB_m1, cl32_nI (show jda < 2 ^ 31 by omega), cl32_nI (show jdb < 2 ^ 31 by omega)])) ?_
          exact wr_iret hx hb hr hlocks hP hS dX4_dispatch_178

set_option maxHeartbeats 4000000 in
set_option maxRecDepth 100000 in
theorem c_X4_move_x (l : Launch) (dC : Nat → ClassId) (dI : Nat → Nat → Nat) (cs : ClassId × ClassId) (b g : Nat → Nat) (h : Nat → Nat → Int32) (sz : Nat) (da : Int32) (dt : Int32) (hbad : (inB da (g 1) && inB dt (g 1)) = false) (hB : m_bd g)  : Met l yX4_move wsX4_move ({ frames := 1, cells := 0, slots := 0, locals := 23 }) (wrPc (dC, dI) vwCl (wM cs b g h) (tyl cs) sz [.ref (b 0), .int da, .int dt]) (wrQ (dC, dI) vwCl (wM cs b (un g 0 1) h) (some (.int (nI 0))) (va_A (wM cs b g h) sz)) 0 0 (va_A (wM cs b g h) sz) := by
  refine wr_of (cc := cX4_move) (maxL := 3) (ret := (some .int)) (own := RX4) (by decide) rfl rfl (Nat.le_of_ble_eq_true rfl) ?_
  intro p e s m below meth c A hsz hAe hx hb hr hml hts hown hlocks hP hK hD hA hS ls hl
  have hl : lv_has ls 3 [(0, .ref (b 0)), (1, .int da), (2, .int dt)] := hl
  obtain ⟨M1, M2, M3, M4, M5, M6, M7, M8, M9, M10, M11, M12, M13, M14, M15, M16⟩ := id hB
  refine lv_aload_n hx hb dX4_move_0 rfl (lv_at hl 0 rfl) ?_
  refine lv_aload_n hx hb dX4_move_1 rfl (lv_at hl 0 rfl) ?_
  refine lv_iload_n hx hb dX4_move_2 rfl (lv_at hl 1 rfl) ?_
  refine W.callR (W.runV (As := [.int da]) (rest := [.ref (b 0)]) ⟨hx, hb, hml, hown, hts⟩ (c_X4_isRegister l dC dI cs b g h da hB) (cwV 1 hts gX4_move_X4_isRegister rfl rfl rfl (by decide +kernel) ⟨Nat.le_of_ble_eq_true rfl, Nat.le_of_ble_eq_true rfl⟩) (rd_preV (q := (RX4, TX4, 29)) hP hK 0 rfl rfl) rfl rfl hl.1 rfl (lv_room (Nat.le_of_ble_eq_true rfl)) dX4_move_3 ⟨Nat.zero_le _, Nat.zero_le _⟩) ?_
  refine W.eq (g2 := F0 m 6 ls (.int (b2i (inB da (g 1))) :: [.ref (b 0)])) rfl ?_
  refine lv_if_eq (tgt := 17) hx hb dX4_move_6 (by decide) (fun c_1 => ?_) (fun c_1 => ?_)
  · have c_1 : inB da (g 1) = false := b2i_f c_1
    refine lv_iconst (v := nI 1) hx hb dX4_move_17 (by decide) ?_
    refine lv_goto (tgt := 22) hx hb dX4_move_18 (by decide) ?_
    refine lv_iconst (v := nI 0) hx hb dX4_move_22 (by decide) ?_
    refine lv_iconst (v := nI 0) hx hb dX4_move_23 (by decide) ?_
    refine wr_calli (va_runV (As := [.int (nI 1), .int (nI 0), .int (nI 0)]) (rest := []) ⟨hx, hb, hml, hown, hts⟩ (c_X4_throwing l dC dI cs b g h s.heap.size 1 0 0 hB (by decide) (by decide) (by decide)) (cwV 3 hts gX4_move_X4_throwing rfl rfl rfl (by decide +kernel) ⟨Nat.le_of_ble_eq_true rfl, Nat.le_of_ble_eq_true rfl⟩) (wr_preV (q := (RX4, TX4, 29)) hP hK hD 0 rfl rfl) rfl rfl hl.1 rfl (lv_room (Nat.le_of_ble_eq_true rfl)) dX4_move_24 ⟨Nat.zero_le _, Nat.zero_le _⟩) hS hD hA rfl (fun H locs hP hD hS => ?_)
    have hP : va_P (dC, dI) vwCl (wM cs b (un g 0 1) h) H := hP
    have hD : va_D A (wM cs b (un g 0 1) h) := hD
    refine W.eq (g2 := F0 m 27 ls (.int (nI 1) :: [])) rfl ?_
    have hB : m_bd (un g 0 1) := by (unfold m_bd un; simp; omega)
    refine lv_if_eq (tgt := 32) hx hb dX4_move_27 (by decide) (fun c => absurd c (by decide)) (fun _ => ?_)
    refine lv_iconst (v := nI 0) hx hb dX4_move_30 (by decide) ?_
    exact wr_iret hx hb hr hlocks hP hS dX4_move_31
  · have c_1 : inB da (g 1) = true := b2i_t c_1
    obtain ⟨jda, hjda, rfl⟩ := inB_t c_1 (by omega)
    refine lv_aload_n hx hb dX4_move_9 rfl (lv_at hl 0 rfl) ?_
    refine lv_iload_n hx hb dX4_move_10 rfl (lv_at hl 2 rfl) ?_
    refine W.callR (W.runV (As := [.int dt]) (rest := [.ref (b 0)]) ⟨hx, hb, hml, hown, hts⟩ (c_X4_isRegister l dC dI cs b g h dt hB) (cwV 1 hts gX4_move_X4_isRegister rfl rfl rfl (by decide +kernel) ⟨Nat.le_of_ble_eq_true rfl, Nat.le_of_ble_eq_true rfl⟩) (rd_preV (q := (RX4, TX4, 29)) hP hK 0 rfl rfl) rfl rfl hl.1 rfl (lv_room (Nat.le_of_ble_eq_true rfl)) dX4_move_11 ⟨Nat.zero_le _, Nat.zero_le _⟩) ?_
    refine W.eq (g2 := F0 m 14 ls (.int (b2i (inB dt (g 1))) :: [.ref (b 0)])) rfl ?_
    refine lv_if_ne (tgt := 21) hx hb dX4_move_14 (by decide) (fun c_3 => ?_) (fun c_3 => ?_)
    · have c_3 : inB dt (g 1) = true := b2i_t c_3
      obtain ⟨jdt, hjdt, rfl⟩ := inB_t c_3 (by omega)
      exfalso; revert hbad; simp [c_1, c_3, inB_m1]
    · have c_3 : inB dt (g 1) = false := b2i_f c_3
      refine lv_iconst (v := nI 1) hx hb dX4_move_17 (by decide) ?_
      refine lv_goto (tgt := 22) hx hb dX4_move_18 (by decide) ?_
      refine lv_iconst (v := nI 0) hx hb dX4_move_22 (by decide) ?_
      refine lv_iconst (v := nI 0) hx hb dX4_move_23 (by decide) ?_
      refine wr_calli (va_runV (As := [.int (nI 1), .int (nI 0), .int (nI 0)]) (rest := []) ⟨hx, hb, hml, hown, hts⟩ (c_X4_throwing l dC dI cs b g h s.heap.size 1 0 0 hB (by decide) (by decide) (by decide)) (cwV 3 hts gX4_move_X4_throwing rfl rfl rfl (by decide +kernel) ⟨Nat.le_of_ble_eq_true rfl, Nat.le_of_ble_eq_true rfl⟩) (wr_preV (q := (RX4, TX4, 29)) hP hK hD 0 rfl rfl) rfl rfl hl.1 rfl (lv_room (Nat.le_of_ble_eq_true rfl)) dX4_move_24 ⟨Nat.zero_le _, Nat.zero_le _⟩) hS hD hA rfl (fun H locs hP hD hS => ?_)
      have hP : va_P (dC, dI) vwCl (wM cs b (un g 0 1) h) H := hP
      have hD : va_D A (wM cs b (un g 0 1) h) := hD
      refine W.eq (g2 := F0 m 27 ls (.int (nI 1) :: [])) rfl ?_
      have hB : m_bd (un g 0 1) := by (unfold m_bd un; simp; omega)
      refine lv_if_eq (tgt := 32) hx hb dX4_move_27 (by decide) (fun c => absurd c (by decide)) (fun _ => ?_)
      refine lv_iconst (v := nI 0) hx hb dX4_move_30 (by decide) ?_
      exact wr_iret hx hb hr hlocks hP hS dX4_move_31

set_option maxHeartbeats 4000000 in
set_option maxRecDepth 100000 in
theorem c_X4_move_full (l : Launch) (dC : Nat → ClassId) (dI : Nat → Nat → Nat) (cs : ClassId × ClassId) (b g : Nat → Nat) (h : Nat → Nat → Int32) (sz : Nat) (ja : Nat) (r : Nat) (hB : m_bd g) (h1 : ja < g 1) (h2 : r < g 1) (h3 : g 10 = g 3)  : Met l yX4_move wsX4_move ({ frames := 1, cells := 0, slots := 0, locals := 23 }) (wrPc (dC, dI) vwCl (wM cs b g h) (tyl cs) sz [.ref (b 0), .int (nI ja), .int (nI r)]) (wrQ (dC, dI) vwCl (wM cs b (un (un g 0 0) 27 ((g 27) + 1)) h) (some (.int (-1))) (va_A (wM cs b g h) sz)) 0 0 (va_A (wM cs b g h) sz) := by
  refine wr_of (cc := cX4_move) (maxL := 3) (ret := (some .int)) (own := RX4) (by decide) rfl rfl (Nat.le_of_ble_eq_true rfl) ?_
  intro p e s m below meth c A hsz hAe hx hb hr hml hts hown hlocks hP hK hD hA hS ls hl
  have hl : lv_has ls 3 [(0, .ref (b 0)), (1, .int (nI ja)), (2, .int (nI r))] := hl
  have hinX4 : ∀ w ∈ wsX40, w ∈ wsX4_move := by decide +kernel
  obtain ⟨M1, M2, M3, M4, M5, M6, M7, M8, M9, M10, M11, M12, M13, M14, M15, M16⟩ := id hB
  refine lv_aload_n hx hb dX4_move_0 rfl (lv_at hl 0 rfl) ?_
  refine lv_aload_n hx hb dX4_move_1 rfl (lv_at hl 0 rfl) ?_
  refine lv_iload_n hx hb dX4_move_2 rfl (lv_at hl 1 rfl) ?_
  refine W.callR (W.runV (As := [.int (nI ja)]) (rest := [.ref (b 0)]) ⟨hx, hb, hml, hown, hts⟩ (c_X4_isRegister l dC dI cs b g h (nI ja) hB) (cwV 1 hts gX4_move_X4_isRegister rfl rfl rfl (by decide +kernel) ⟨Nat.le_of_ble_eq_true rfl, Nat.le_of_ble_eq_true rfl⟩) (rd_preV (q := (RX4, TX4, 29)) hP hK 0 rfl rfl) rfl rfl hl.1 rfl (lv_room (Nat.le_of_ble_eq_true rfl)) dX4_move_3 ⟨Nat.zero_le _, Nat.zero_le _⟩) ?_
  refine W.eq (g2 := F0 m 6 ls (.int (b2i (inB (nI ja) (g 1))) :: [.ref (b 0)])) rfl ?_
  refine lv_if_eq (tgt := 17) hx hb dX4_move_6 (by decide) (fun c_1 => absurd (b2i_f c_1) (by rw [inB_nI (by omega) (by omega)]; simp; omega)) (fun c_1 => ?_)
  have c_1 : inB (nI ja) (g 1) = true := b2i_t c_1
  refine lv_aload_n hx hb dX4_move_9 rfl (lv_at hl 0 rfl) ?_
  refine lv_iload_n hx hb dX4_move_10 rfl (lv_at hl 2 rfl) ?_
  refine W.callR (W.runV (As := [.int (nI r)]) (rest := [.ref (b 0)]) ⟨hx, hb, hml, hown, hts⟩ (c_X4_isRegister l dC dI cs b g h (nI r) hB) (cwV 1 hts gX4_move_X4_isRegister rfl rfl rfl (by decide +kernel) ⟨Nat.le_of_ble_eq_true rfl, Nat.le_of_ble_eq_true rfl⟩) (rd_preV (q := (RX4, TX4, 29)) hP hK 0 rfl rfl) rfl rfl hl.1 rfl (lv_room (Nat.le_of_ble_eq_true rfl)) dX4_move_11 ⟨Nat.zero_le _, Nat.zero_le _⟩) ?_
  refine W.eq (g2 := F0 m 14 ls (.int (b2i (inB (nI r) (g 1))) :: [.ref (b 0)])) rfl ?_
  refine lv_if_ne (tgt := 21) hx hb dX4_move_14 (by decide) (fun c_2 => ?_) (fun c_2 => absurd (b2i_f c_2) (by rw [inB_nI (by omega) (by omega)]; simp; omega))
  have c_2 : inB (nI r) (g 1) = true := b2i_t c_2
  refine lv_iconst (v := nI 0) hx hb dX4_move_21 (by decide) ?_
  refine lv_iconst (v := nI 0) hx hb dX4_move_22 (by decide) ?_
  refine lv_iconst (v := nI 0) hx hb dX4_move_23 (by decide) ?_
  refine wr_calli (va_runV (As := [.int (nI 0), .int (nI 0), .int (nI 0)]) (rest := []) ⟨hx, hb, hml, hown, hts⟩ (c_X4_throwing l dC dI cs b g h s.heap.size 0 0 0 hB (by decide) (by decide) (by decide)) (cwV 3 hts gX4_move_X4_throwing rfl rfl rfl (by decide +kernel) ⟨Nat.le_of_ble_eq_true rfl, Nat.le_of_ble_eq_true rfl⟩) (wr_preV (q := (RX4, TX4, 29)) hP hK hD 0 rfl rfl) rfl rfl hl.1 rfl (lv_room (Nat.le_of_ble_eq_true rfl)) dX4_move_24 ⟨Nat.zero_le _, Nat.zero_le _⟩) hS hD hA rfl (fun H locs hP hD hS => ?_)
  have hP : va_P (dC, dI) vwCl (wM cs b (un g 0 0) h) H := hP
  have hD : va_D A (wM cs b (un g 0 0) h) := hD
  refine W.eq (g2 := F0 m 27 ls (.int (nI 0) :: [])) rfl ?_
  have hB : m_bd (un g 0 0) := by (unfold m_bd un; simp; omega)
  refine lv_if_eq (tgt := 32) hx hb dX4_move_27 (by decide) (fun _ => ?_) (fun c => absurd (by decide) c)
  refine lv_aload_n hx hb dX4_move_32 rfl (lv_at hl 0 rfl) ?_
  refine va_get (D := (dC, dI)) (ci := 5) (v := .int (nI (g 10))) (C := RX4) (T := TX4) (N := 29) hx hb hts hinX4 hown hK hP 0 rfl rfl 10 (by decide) (hts (.fieldLink RX4 86 "RenameRowsModel" "rows" "I") (by decide +kernel)) (fun _ h9 => h9) rfl dX4_move_33 ?_
  refine lv_aload_n hx hb dX4_move_36 rfl (lv_at hl 0 rfl) ?_
  refine va_get (D := (dC, dI)) (ci := 5) (v := .int (nI (g 3))) (C := RX4) (T := TX4) (N := 29) hx hb hts hinX4 hown hK hP 0 rfl rfl 3 (by decide) (hts (.fieldLink RX4 70 "RenameRowsModel" "places" "I") (by decide +kernel)) (fun _ h9 => h9) rfl dX4_move_37 ?_
  refine lv_icmp_ne (tgt := 55) hx hb dX4_move_40 (by decide) (fun c_4 => absurd ((nI_eq (by omega) (by omega)).mpr (by omega)) c_4) (fun c_4 => ?_)
  have c_4 : (g 10) = (g 3) := (nI_eq (by omega) (by omega)).mp c_4
  refine lv_aload_n hx hb dX4_move_43 rfl (lv_at hl 0 rfl) ?_
  refine lv_dup hx hb dX4_move_44 rfl ?_
  refine va_get (D := (dC, dI)) (ci := 5) (v := .int (nI (g 27))) (C := RX4) (T := TX4) (N := 29) hx hb hts hinX4 hown hK hP 0 rfl rfl 27 (by decide) (hts (.fieldLink RX4 100 "RenameRowsModel" "noPlace" "I") (by decide +kernel)) (fun _ h9 => h9) rfl dX4_move_45 ?_
  refine lv_iconst (v := nI 1) hx hb dX4_move_48 (by decide) ?_
  refine lv_iadd hx hb dX4_move_49 ?_
  refine tp_eq (nI_add (g 27) 1) ?_
  refine va_put (D := (dC, dI)) (ci := 5) (v := .int (nI ((g 27) + 1))) (ty := .int) (C := RX4) (T := TX4) (N := 29) hx hb hts hinX4 tyX4 tyX4_ok nmX4 hown hK hP hD hS 0 rfl rfl 27 (by decide) (hts (.fieldLink RX4 100 "RenameRowsModel" "noPlace" "I") (by decide +kernel)) (fun _ h9 => h9) rfl (by decide +kernel) rfl rfl (Nat.le_of_ble_eq_true rfl) dX4_move_50 (fun H locs hP hD hS => ?_)
  have hP : va_P (dC, dI) vwCl (wM cs b (un (un g 0 0) 27 ((g 27) + 1)) h) H := hP
  have hD : va_D A (wM cs b (un (un g 0 0) 27 ((g 27) + 1)) h) := hD
  refine lv_iconst (v := (-1)) hx hb dX4_move_53 (by decide) ?_
  exact wr_iret hx hb hr hlocks hP hS dX4_move_54

set_option maxHeartbeats 4000000 in
set_option maxRecDepth 100000 in
theorem c_X4_move_go (l : Launch) (dC : Nat → ClassId) (dI : Nat → Nat → Nat) (cs : ClassId × ClassId) (b g : Nat → Nat) (h : Nat → Nat → Int32) (sz : Nat) (ja : Nat) (r : Nat) (q : Nat) (hq : h 4 ja = nI q) (hB : m_bd g) (h1 : ja < g 1) (h2 : r < g 1) (h3 : g 10 < g 3) (h4 : q < 96)  : Met l yX4_move wsX4_move ({ frames := 2, cells := 0, slots := 0, locals := 46 }) (wrPc (dC, dI) vwCl (wM cs b g h) (tyl cs) sz [.ref (b 0), .int (nI ja), .int (nI r)]) (wrQ (dC, dI) vwCl (wM cs b (un (un g 0 0) 10 ((g 10) + 1)) (uf (m_aF (un g 0 0) (uf h 6 (upd (h 6) q (((h 6 q) + nI 1)))) (nI q) (-1) (nI q) (h 4 r) (nI r) (nI 2)) 4 (upd (h 4) r (nI q)))) (some (.int (nI (m_pos g (g 10))))) (va_A (wM cs b g h) sz)) 0 0 (va_A (wM cs b g h) sz) := by
  refine wr_of (cc := cX4_move) (maxL := 3) (ret := (some .int)) (own := RX4) (by decide) rfl rfl (Nat.le_of_ble_eq_true rfl) ?_
  intro p e s m below meth c A hsz hAe hx hb hr hml hts hown hlocks hP hK hD hA hS ls hl
  have hl : lv_has ls 3 [(0, .ref (b 0)), (1, .int (nI ja)), (2, .int (nI r))] := hl
  have hinX4 : ∀ w ∈ wsX40, w ∈ wsX4_move := by decide +kernel
  obtain ⟨M1, M2, M3, M4, M5, M6, M7, M8, M9, M10, M11, M12, M13, M14, M15, M16⟩ := id hB
  refine lv_aload_n hx hb dX4_move_0 rfl (lv_at hl 0 rfl) ?_
  refine lv_aload_n hx hb dX4_move_1 rfl (lv_at hl 0 rfl) ?_
  refine lv_iload_n hx hb dX4_move_2 rfl (lv_at hl 1 rfl) ?_
  refine W.callR (W.runV (As := [.int (nI ja)]) (rest := [.ref (b 0)]) ⟨hx, hb, hml, hown, hts⟩ (c_X4_isRegister l dC dI cs b g h (nI ja) hB) (cwV 1 hts gX4_move_X4_isRegister rfl rfl rfl (by decide +kernel) ⟨Nat.le_of_ble_eq_true rfl, Nat.le_of_ble_eq_true rfl⟩) (rd_preV (q := (RX4, TX4, 29)) hP hK 0 rfl rfl) rfl rfl hl.1 rfl (lv_room (Nat.le_of_ble_eq_true rfl)) dX4_move_3 ⟨Nat.zero_le _, Nat.zero_le _⟩) ?_
  refine W.eq (g2 := F0 m 6 ls (.int (b2i (inB (nI ja) (g 1))) :: [.ref (b 0)])) rfl ?_
  refine lv_if_eq (tgt := 17) hx hb dX4_move_6 (by decide) (fun c_1 => absurd (b2i_f c_1) (by rw [inB_nI (by omega) (by omega)]; simp; omega)) (fun c_1 => ?_)
  have c_1 : inB (nI ja) (g 1) = true := b2i_t c_1
  refine lv_aload_n hx hb dX4_move_9 rfl (lv_at hl 0 rfl) ?_
  refine lv_iload_n hx hb dX4_move_10 rfl (lv_at hl 2 rfl) ?_
  refine W.callR (W.runV (As := [.int (nI r)]) (rest := [.ref (b 0)]) ⟨hx, hb, hml, hown, hts⟩ (c_X4_isRegister l dC dI cs b g h (nI r) hB) (cwV 1 hts gX4_move_X4_isRegister rfl rfl rfl (by decide +kernel) ⟨Nat.le_of_ble_eq_true rfl, Nat.le_of_ble_eq_true rfl⟩) (rd_preV (q := (RX4, TX4, 29)) hP hK 0 rfl rfl) rfl rfl hl.1 rfl (lv_room (Nat.le_of_ble_eq_true rfl)) dX4_move_11 ⟨Nat.zero_le _, Nat.zero_le _⟩) ?_
  refine W.eq (g2 := F0 m 14 ls (.int (b2i (inB (nI r) (g 1))) :: [.ref (b 0)])) rfl ?_
  refine lv_if_ne (tgt := 21) hx hb dX4_move_14 (by decide) (fun c_2 => ?_) (fun c_2 => absurd (b2i_f c_2) (by rw [inB_nI (by omega) (by omega)]; simp; omega))
  have c_2 : inB (nI r) (g 1) = true := b2i_t c_2
  refine lv_iconst (v := nI 0) hx hb dX4_move_21 (by decide) ?_
  refine lv_iconst (v := nI 0) hx hb dX4_move_22 (by decide) ?_
  refine lv_iconst (v := nI 0) hx hb dX4_move_23 (by decide) ?_
  refine wr_calli (va_runV (As := [.int (nI 0), .int (nI 0), .int (nI 0)]) (rest := []) ⟨hx, hb, hml, hown, hts⟩ (c_X4_throwing l dC dI cs b g h s.heap.size 0 0 0 hB (by decide) (by decide) (by decide)) (cwV 3 hts gX4_move_X4_throwing rfl rfl rfl (by decide +kernel) ⟨Nat.le_of_ble_eq_true rfl, Nat.le_of_ble_eq_true rfl⟩) (wr_preV (q := (RX4, TX4, 29)) hP hK hD 0 rfl rfl) rfl rfl hl.1 rfl (lv_room (Nat.le_of_ble_eq_true rfl)) dX4_move_24 ⟨Nat.zero_le _, Nat.zero_le _⟩) hS hD hA rfl (fun H locs hP hD hS => ?_)
  have hP : va_P (dC, dI) vwCl (wM cs b (un g 0 0) h) H := hP
  have hD : va_D A (wM cs b (un g 0 0) h) := hD
  refine W.eq (g2 := F0 m 27 ls (.int (nI 0) :: [])) rfl ?_
  have hB : m_bd (un g 0 0) := by (unfold m_bd un; simp; omega)
  refine lv_if_eq (tgt := 32) hx hb dX4_move_27 (by decide) (fun _ => ?_) (fun c => absurd (by decide) c)
  refine lv_aload_n hx hb dX4_move_32 rfl (lv_at hl 0 rfl) ?_
  refine va_get (D := (dC, dI)) (ci := 5) (v := .int (nI (g 10))) (C := RX4) (T := TX4) (N := 29) hx hb hts hinX4 hown hK hP 0 rfl rfl 10 (by decide) (hts (.fieldLink RX4 86 "RenameRowsModel" "rows" "I") (by decide +kernel)) (fun _ h9 => h9) rfl dX4_move_33 ?_
  refine lv_aload_n hx hb dX4_move_36 rfl (lv_at hl 0 rfl) ?_
  refine va_get (D := (dC, dI)) (ci := 5) (v := .int (nI (g 3))) (C := RX4) (T := TX4) (N := 29) hx hb hts hinX4 hown hK hP 0 rfl rfl 3 (by decide) (hts (.fieldLink RX4 70 "RenameRowsModel" "places" "I") (by decide +kernel)) (fun _ h9 => h9) rfl dX4_move_37 ?_
  refine lv_icmp_ne (tgt := 55) hx hb dX4_move_40 (by decide) (fun c_4 => ?_) (fun c_4 => absurd ((nI_eq (by omega) (by omega)).mp c_4) (by omega))
  have c_4 : ¬ (g 10) = (g 3) := fun q => c_4 ((nI_eq (by omega) (by omega)).mpr q)
  refine lv_aload_n hx hb dX4_move_55 rfl (lv_at hl 0 rfl) ?_
  refine va_get (D := (dC, dI)) (ci := 5) (v := .ref (b 6)) (C := RX4) (T := TX4) (N := 29) hx hb hts hinX4 hown hK hP 0 rfl rfl 6 (by decide) (hts (.fieldLink RX4 16 "RenameRowsModel" "shares" "[I") (by decide +kernel)) (fun _ h9 => h9) rfl dX4_move_56 ?_
  refine lv_aload_n hx hb dX4_move_59 rfl (lv_at hl 0 rfl) ?_
  refine va_get (D := (dC, dI)) (ci := 5) (v := .ref (b 4)) (C := RX4) (T := TX4) (N := 29) hx hb hts hinX4 hown hK hP 0 rfl rfl 4 (by decide) (hts (.fieldLink RX4 7 "RenameRowsModel" "name" "[I") (by decide +kernel)) (fun _ h9 => h9) rfl dX4_move_60 ?_
  refine lv_iload_n hx hb dX4_move_63 rfl (lv_at hl 1 rfl) ?_
  refine ar_ld (D := (dC, dI)) (n := 32) (f := h 4) hx hb hK hP 1 0 rfl rfl (by omega) (by omega) dX4_move_64 ?_
  refine tp_eq hq ?_
  refine lv_dup2_11 hx hb dX4_move_65 rfl rfl ?_
  refine ar_ld (D := (dC, dI)) (n := 96) (f := h 6) hx hb hK hP 3 0 rfl rfl (by omega) (by omega) dX4_move_66 ?_
  refine lv_iconst (v := nI 1) hx hb dX4_move_67 (by decide) ?_
  refine lv_iadd hx hb dX4_move_68 ?_
  refine ar_st (D := (dC, dI)) (n := 96) (f := h 6) hx hb hK hP hD hS 3 0 rfl rfl (by omega) (by omega) dX4_move_69 (fun H locs hP hD hS => ?_)
  have hP : va_P (dC, dI) vwCl (wM cs b (un g 0 0) (uf h 6 (upd (h 6) q ((h 6 q) + nI 1)))) H := hP
  have hD : va_D A (wM cs b (un g 0 0) (uf h 6 (upd (h 6) q ((h 6 q) + nI 1)))) := hD
  refine lv_aload_n hx hb dX4_move_70 rfl (lv_at hl 0 rfl) ?_
  refine lv_aload_n hx hb dX4_move_71 rfl (lv_at hl 0 rfl) ?_
  refine va_get (D := (dC, dI)) (ci := 5) (v := .ref (b 4)) (C := RX4) (T := TX4) (N := 29) hx hb hts hinX4 hown hK hP 0 rfl rfl 4 (by decide) (hts (.fieldLink RX4 7 "RenameRowsModel" "name" "[I") (by decide +kernel)) (fun _ h9 => h9) rfl dX4_move_72 ?_
  refine lv_iload_n hx hb dX4_move_75 rfl (lv_at hl 1 rfl) ?_
  refine ar_ld (D := (dC, dI)) (n := 32) (f := h 4) hx hb hK hP 1 0 rfl rfl (by omega) (by omega) dX4_move_76 ?_
  refine tp_eq hq ?_
  refine lv_iconst (v := (-1)) hx hb dX4_move_77 (by decide) ?_
  refine lv_aload_n hx hb dX4_move_78 rfl (lv_at hl 0 rfl) ?_
  refine va_get (D := (dC, dI)) (ci := 5) (v := .ref (b 4)) (C := RX4) (T := TX4) (N := 29) hx hb hts hinX4 hown hK hP 0 rfl rfl 4 (by decide) (hts (.fieldLink RX4 7 "RenameRowsModel" "name" "[I") (by decide +kernel)) (fun _ h9 => h9) rfl dX4_move_79 ?_
  refine lv_iload_n hx hb dX4_move_82 rfl (lv_at hl 1 rfl) ?_
  refine ar_ld (D := (dC, dI)) (n := 32) (f := h 4) hx hb hK hP 1 0 rfl rfl (by omega) (by omega) dX4_move_83 ?_
  refine tp_eq hq ?_
  refine lv_iload_n hx hb dX4_move_84 rfl (lv_at hl 2 rfl) ?_
  refine lv_iconst (v := nI 2) hx hb dX4_move_85 (by decide) ?_
  refine wr_calli (va_runV (As := [.int (nI q), .int (-1), .int (nI q), .int (nI r), .int (nI 2)]) (rest := []) ⟨hx, hb, hml, hown, hts⟩ (c_X4_add_r l dC dI cs b (un g 0 0) (uf h 6 (upd (h 6) q ((h 6 q) + nI 1))) H.size (nI q) (-1) (nI q) r (nI 2) hB (by first | omega | assumption) (by first | omega | assumption)) (cwV 5 hts gX4_move_X4_add rfl rfl rfl (by decide +kernel) ⟨Nat.le_of_ble_eq_true rfl, Nat.le_of_ble_eq_true rfl⟩) (wr_preV (q := (RX4, TX4, 29)) hP hK hD 0 rfl rfl) rfl rfl hl.1 rfl (lv_room (Nat.le_of_ble_eq_true rfl)) dX4_move_86 ⟨Nat.zero_le _, Nat.zero_le _⟩) hS hD hA rfl (fun H locs hP hD hS => ?_)
  have hP : va_P (dC, dI) vwCl (wM cs b (un (un g 0 0) 10 ((g 10) + 1)) (uf (m_aF (un g 0 0) (uf h 6 (upd (h 6) q ((h 6 q) + nI 1))) (nI q) (-1) (nI q) (h 4 r) (nI r) (nI 2)) 4 (upd (h 4) r (nI q)))) H := hP
  have hD : va_D A (wM cs b (un (un g 0 0) 10 ((g 10) + 1)) (uf (m_aF (un g 0 0) (uf h 6 (upd (h 6) q ((h 6 q) + nI 1))) (nI q) (-1) (nI q) (h 4 r) (nI r) (nI 2)) 4 (upd (h 4) r (nI q)))) := hD
  have hP : va_P (dC, dI) vwCl (wM cs b (un (un g 0 0) 10 ((g 10) + 1)) (uf (m_aF (un g 0 0) (uf h 6 (upd (h 6) q (((h 6 q) + nI 1)))) (nI q) (-1) (nI q) (h 4 r) (nI r) (nI 2)) 4 (upd (h 4) r (nI q)))) H := by
    have e9 : (wM cs b (un (un g 0 0) 10 ((g 10) + 1)) (uf (m_aF (un g 0 0) (uf h 6 (upd (h 6) q ((h 6 q) + nI 1))) (nI q) (-1) (nI q) (h 4 r) (nI r) (nI 2)) 4 (upd (h 4) r (nI q)))) = (wM cs b (un (un g 0 0) 10 ((g 10) + 1)) (uf (m_aF (un g 0 0) (uf h 6 (upd (h 6) q (((h 6 q) + nI 1)))) (nI q) (-1) (nI q) (h 4 r) (nI r) (nI 2)) 4 (upd (h 4) r (nI q)))) := by rfl
    rw [← e9]; exact hP
  refine tp_eq (show _ = nI (m_pos g (g 10)) by rfl) ?_
  exact wr_iret hx hb hr hlocks hP hS dX4_move_89
