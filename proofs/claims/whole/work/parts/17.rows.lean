set_option maxHeartbeats 4000000 in
set_option maxRecDepth 100000 in
theorem c_X3_appendRow (l : Launch) (dC : Nat → ClassId) (dI : Nat → Nat → Nat) (cs : ClassId × ClassId) (a n : Nat → Nat) (f : Nat → Nat → Int32) (sz : Nat) (ra : Int32) (rb : Int32) (rg : Int32) (rt : Int32) (rs : Int32) (hB : x_bd n) (h1 : n 9 < n 2)  : Met l yX3_appendRow wsX3_appendRow ({ frames := 2, cells := 0, slots := 0, locals := 49 }) (wrPc (dC, dI) vwCl (wX cs a n f) (tyl cs) sz [.ref (a 0), .int ra, .int rb, .int rg, .int rt, .int rs]) (wrQ (dC, dI) vwCl (wX cs a (un n 9 ((n 9) + 1)) (x_apF n f ra rb rg rt rs)) (some (.int (nI (x_pos n (n 9))))) (va_A (wX cs a n f) sz)) 0 0 (va_A (wX cs a n f) sz) := by
  refine wr_of (cc := cX3_appendRow) (maxL := 7) (ret := (some .int)) (own := RX3) (by decide) rfl rfl (Nat.le_of_ble_eq_true rfl) ?_
  intro p e s m below meth c A hsz hAe hx hb hr hml hts hown hlocks hP hK hD hA hS ls hl
  have hl : lv_has ls 7 [(0, .ref (a 0)), (1, .int ra), (2, .int rb), (3, .int rg), (4, .int rt), (5, .int rs)] := hl
  have hinX3 : ∀ w ∈ wsX30, w ∈ wsX3_appendRow := by decide +kernel
  obtain ⟨B1, B2, B3, B4, B5, B6, B7, B8, B9, B10, B11, B12, B13, B14, B15⟩ := id hB
  refine lv_aload_n hx hb dX3_appendRow_0 rfl (lv_at hl 0 rfl) ?_
  refine va_get (D := (dC, dI)) (ci := 4) (v := .ref (a 2)) (C := RX3) (T := TX3) (N := 9) hx hb hts hinX3 hown hK hP 0 rfl rfl 1 (by decide) (hts (.fieldLink RX3 27 "RenameRows" "ring" "LRenameRows$Ring;") (by decide +kernel)) (fun _ h9 => h9) rfl dX3_appendRow_1 ?_
  refine lv_iload_n hx hb dX3_appendRow_4 rfl (lv_at hl 1 rfl) ?_
  refine lv_iload_n hx hb dX3_appendRow_5 rfl (lv_at hl 2 rfl) ?_
  refine lv_iload_n hx hb dX3_appendRow_6 rfl (lv_at hl 3 rfl) ?_
  refine lv_aload_n hx hb dX3_appendRow_7 rfl (lv_at hl 0 rfl) ?_
  refine lv_iload hx hb dX3_appendRow_8 (lv_at hl 4 rfl) ?_
  refine W.callR (W.runV (As := [.int rt]) (rest := [.int rg, .int rb, .int ra, .ref (a 2)]) ⟨hx, hb, hml, hown, hts⟩ (c_X3_currentName l dC dI cs a n f rt hB) (cwV 1 hts gX3_appendRow_X3_currentName rfl rfl rfl (by decide +kernel) ⟨Nat.le_of_ble_eq_true rfl, Nat.le_of_ble_eq_true rfl⟩) (rd_preV (q := (RX3, TX3, 9)) hP hK 0 rfl rfl) rfl rfl hl.1 rfl (lv_room (Nat.le_of_ble_eq_true rfl)) dX3_appendRow_10 ⟨Nat.zero_le _, Nat.zero_le _⟩) ?_
  refine W.eq (g2 := F0 m 13 ls (.int (x_cur n f rt) :: [.int rg, .int rb, .int ra, .ref (a 2)])) rfl ?_
  refine lv_iload hx hb dX3_appendRow_13 (lv_at hl 4 rfl) ?_
  refine lv_iload hx hb dX3_appendRow_15 (lv_at hl 5 rfl) ?_
  refine wr_calli (va_runV (As := [.int ra, .int rb, .int rg, .int (x_cur n f rt), .int rt, .int rs]) (rest := []) ⟨hx, hb, hml, hown, hts⟩ (c_X2_append l dC dI cs a n f s.heap.size ra rb rg (x_cur n f rt) rt rs hB (by first | omega | assumption)) (cwV 6 hts gX3_appendRow_X2_append rfl rfl rfl (by decide +kernel) ⟨Nat.le_of_ble_eq_true rfl, Nat.le_of_ble_eq_true rfl⟩) (wr_preV (q := (RX2, TX2, 10)) hP hK hD 2 rfl rfl) rfl rfl hl.1 rfl (lv_room (Nat.le_of_ble_eq_true rfl)) dX3_appendRow_17 ⟨Nat.zero_le _, Nat.zero_le _⟩) hS hD hA rfl (fun H locs hP hD hS => ?_)
  have hP : va_P (dC, dI) vwCl (wX cs a (un n 9 ((n 9) + 1)) (x_app n f ra rb rg (x_cur n f rt) rt rs)) H := hP
  have hD : va_D A (wX cs a (un n 9 ((n 9) + 1)) (x_app n f ra rb rg (x_cur n f rt) rt rs)) := hD
  have hB : x_bd (un n 9 ((n 9) + 1)) := by (unfold x_bd un; simp; omega)
  refine lv_istore (lv' := [(6, .int (nI (x_pos n (n 9)))), (0, .ref (a 0)), (1, .int ra), (2, .int rb), (3, .int rg), (4, .int rt), (5, .int rs)]) hx hb dX3_appendRow_20 hl (by decide) rfl (fun ls hl => ?_)
  refine lv_aload_n hx hb dX3_appendRow_22 rfl (lv_at hl 1 rfl) ?_
  refine lv_iload hx hb dX3_appendRow_23 (lv_at hl 5 rfl) ?_
  refine W.callR (W.runV (As := [.int rt]) (rest := []) ⟨hx, hb, hml, hown, hts⟩ (c_X3_isRegister l dC dI cs a (un n 9 ((n 9) + 1)) (x_app n f ra rb rg (x_cur n f rt) rt rs) rt hB) (cwV 1 hts gX3_appendRow_X3_isRegister rfl rfl rfl (by decide +kernel) ⟨Nat.le_of_ble_eq_true rfl, Nat.le_of_ble_eq_true rfl⟩) (rd_preV (q := (RX3, TX3, 9)) hP hK 0 rfl rfl) rfl rfl hl.1 rfl (lv_room (Nat.le_of_ble_eq_true rfl)) dX3_appendRow_25 ⟨Nat.zero_le _, Nat.zero_le _⟩) ?_
  refine W.eq (g2 := F0 m 28 ls (.int (b2i (inB rt (n 0))) :: [])) rfl ?_
  refine lv_if_eq (tgt := 39) hx hb dX3_appendRow_28 (by decide) (fun c_1 => ?_) (fun c_1 => ?_)
  · have c_1 : inB rt (n 0) = false := b2i_f c_1
    refine lv_iload hx hb dX3_appendRow_39 (lv_at hl 0 rfl) ?_
    have hP : va_P (dC, dI) vwCl (wX cs a (un n 9 ((n 9) + 1)) (x_apF n f ra rb rg rt rs)) H := by
      have e9 : (wX cs a (un n 9 ((n 9) + 1)) (x_app n f ra rb rg (x_cur n f rt) rt rs)) = (wX cs a (un n 9 ((n 9) + 1)) (x_apF n f ra rb rg rt rs)) := by first | (simp [x_apF, c_1]; done) | (simp [nI_0, x_apF, c_1]; done) | (simp [x_apF, c_1]; omega)
      rw [← e9]; exact hP
    exact wr_iret hx hb hr hlocks hP hS dX3_appendRow_41
  · have c_1 : inB rt (n 0) = true := b2i_t c_1
    obtain ⟨jrt, hjrt, rfl⟩ := inB_t c_1 (by omega)
    refine lv_aload_n hx hb dX3_appendRow_31 rfl (lv_at hl 1 rfl) ?_
    refine va_get (D := (dC, dI)) (ci := 4) (v := .ref (a 4)) (C := RX3) (T := TX3) (N := 9) hx hb hts hinX3 hown hK hP 0 rfl rfl 3 (by decide) (hts (.fieldLink RX3 38 "RenameRows" "nameNow" "[I") (by decide +kernel)) (fun _ h9 => h9) rfl dX3_appendRow_32 ?_
    refine lv_iload hx hb dX3_appendRow_35 (lv_at hl 5 rfl) ?_
    refine lv_iload_n hx hb dX3_appendRow_37 rfl (lv_at hl 4 rfl) ?_
    refine ar_st (D := (dC, dI)) (n := n 0) (f := f 4) hx hb hK hP hD hS 4 0 rfl rfl (by omega) (by omega) dX3_appendRow_38 (fun H locs hP hD hS => ?_)
    have hP : va_P (dC, dI) vwCl (wX cs a (un n 9 ((n 9) + 1)) (uf (x_app n f ra rb rg (x_cur n f (nI jrt)) (nI jrt) rs) 4 (upd (f 4) jrt rg))) H := hP
    have hD : va_D A (wX cs a (un n 9 ((n 9) + 1)) (uf (x_app n f ra rb rg (x_cur n f (nI jrt)) (nI jrt) rs) 4 (upd (f 4) jrt rg))) := hD
    refine lv_iload hx hb dX3_appendRow_39 (lv_at hl 0 rfl) ?_
    have hP : va_P (dC, dI) vwCl (wX cs a (un n 9 ((n 9) + 1)) (x_apF n f ra rb rg (nI jrt) rs)) H := by
      have e9 : (wX cs a (un n 9 ((n 9) + 1)) (uf (x_app n f ra rb rg (x_cur n f (nI jrt)) (nI jrt) rs) 4 (upd (f 4) jrt rg))) = (wX cs a (un n 9 ((n 9) + 1)) (x_apF n f ra rb rg (nI jrt) rs)) := by first | (simp [x_apF, c_1, cl32_nI (show jrt < 2 ^ 31 by omega)]; done) | (simp [nI_0, x_apF, c_1, cl32_nI (show jrt < 2 ^ 31 by omega)]; done) | (simp [x_apF, c_1, cl32_nI (show jrt < 2 ^ 31 by omega)]; omega)
      rw [← e9]; exact hP
    exact wr_iret hx hb hr hlocks hP hS dX3_appendRow_41

set_option maxHeartbeats 4000000 in
set_option maxRecDepth 100000 in
theorem c_X3_finishOldest_0 (l : Launch) (dC : Nat → ClassId) (dI : Nat → Nat → Nat) (cs : ClassId × ClassId) (a n : Nat → Nat) (f : Nat → Nat → Int32) (sz : Nat) (hr0 : f 14 (n 8) = -1) (hB : x_bd n) (h1 : 0 < n 9)  : Met l yX3_finishOldest wsX3_finishOldest ({ frames := 2, cells := 0, slots := 0, locals := 43 }) (wrPc (dC, dI) vwCl (wX cs a n f) (tyl cs) sz [.ref (a 0)]) (wrQ (dC, dI) vwCl (wX cs a (x_dN n) f) none (va_A (wX cs a n f) sz)) 0 0 (va_A (wX cs a n f) sz) := by
  refine wr_of (cc := cX3_finishOldest) (maxL := 3) (ret := none) (own := RX3) (by decide) rfl rfl (Nat.le_of_ble_eq_true rfl) ?_
  intro p e s m below meth c A hsz hAe hx hb hr hml hts hown hlocks hP hK hD hA hS ls hl
  have hl : lv_has ls 3 [(0, .ref (a 0))] := hl
  have hinX3 : ∀ w ∈ wsX30, w ∈ wsX3_finishOldest := by decide +kernel
  obtain ⟨B1, B2, B3, B4, B5, B6, B7, B8, B9, B10, B11, B12, B13, B14, B15⟩ := id hB
  have ho : x_old n = nI (n 8) := by simp [x_old]; omega
  refine lv_aload_n hx hb dX3_finishOldest_0 rfl (lv_at hl 0 rfl) ?_
  refine va_get (D := (dC, dI)) (ci := 4) (v := .ref (a 2)) (C := RX3) (T := TX3) (N := 9) hx hb hts hinX3 hown hK hP 0 rfl rfl 1 (by decide) (hts (.fieldLink RX3 27 "RenameRows" "ring" "LRenameRows$Ring;") (by decide +kernel)) (fun _ h9 => h9) rfl dX3_finishOldest_1 ?_
  refine W.callR (W.runV (As := []) (rest := []) ⟨hx, hb, hml, hown, hts⟩ (c_X2_oldestPlace l dC dI cs a n f hB) (cwV 0 hts gX3_finishOldest_X2_oldestPlace rfl rfl rfl (by decide +kernel) ⟨Nat.le_of_ble_eq_true rfl, Nat.le_of_ble_eq_true rfl⟩) (rd_preV (q := (RX2, TX2, 10)) hP hK 2 rfl rfl) rfl rfl hl.1 rfl (lv_room (Nat.le_of_ble_eq_true rfl)) dX3_finishOldest_4 ⟨Nat.zero_le _, Nat.zero_le _⟩) ?_
  refine W.eq (g2 := F0 m 7 ls (.int (x_old n) :: [])) rfl ?_
  refine tp_eq ho ?_
  refine lv_istore_n (lv' := [(1, .int (nI (n 8))), (0, .ref (a 0))]) hx hb dX3_finishOldest_7 rfl hl (by decide) rfl (fun ls hl => ?_)
  refine lv_aload_n hx hb dX3_finishOldest_8 rfl (lv_at hl 1 rfl) ?_
  refine va_get (D := (dC, dI)) (ci := 4) (v := .ref (a 2)) (C := RX3) (T := TX3) (N := 9) hx hb hts hinX3 hown hK hP 0 rfl rfl 1 (by decide) (hts (.fieldLink RX3 27 "RenameRows" "ring" "LRenameRows$Ring;") (by decide +kernel)) (fun _ h9 => h9) rfl dX3_finishOldest_9 ?_
  refine lv_iload_n hx hb dX3_finishOldest_12 rfl (lv_at hl 0 rfl) ?_
  refine W.callR (W.runV (As := [.int (nI (n 8))]) (rest := []) ⟨hx, hb, hml, hown, hts⟩ (c_X2_registerAt l dC dI cs a n f (nI (n 8)) hB) (cwV 1 hts gX3_finishOldest_X2_registerAt rfl rfl rfl (by decide +kernel) ⟨Nat.le_of_ble_eq_true rfl, Nat.le_of_ble_eq_true rfl⟩) (rd_preV (q := (RX2, TX2, 10)) hP hK 2 rfl rfl) rfl rfl hl.1 rfl (lv_room (Nat.le_of_ble_eq_true rfl)) dX3_finishOldest_13 ⟨Nat.zero_le _, Nat.zero_le _⟩) ?_
  refine W.eq (g2 := F0 m 16 ls (.int (x_at 14 n f (nI (n 8))) :: [])) rfl ?_
  refine tp_eq (x_at_nI (by omega) (by omega)) ?_
  refine W.eq (g2 := F0 m 16 ls (.int (f 14 (n 8)) :: [])) rfl ?_
  refine lv_istore_n (lv' := [(2, .int (f 14 (n 8))), (1, .int (nI (n 8))), (0, .ref (a 0))]) hx hb dX3_finishOldest_16 rfl hl (by decide) rfl (fun ls hl => ?_)
  refine lv_aload_n hx hb dX3_finishOldest_17 rfl (lv_at hl 2 rfl) ?_
  refine lv_iload_n hx hb dX3_finishOldest_18 rfl (lv_at hl 0 rfl) ?_
  refine W.callR (W.runV (As := [.int (f 14 (n 8))]) (rest := []) ⟨hx, hb, hml, hown, hts⟩ (c_X3_isRegister l dC dI cs a n f (f 14 (n 8)) hB) (cwV 1 hts gX3_finishOldest_X3_isRegister rfl rfl rfl (by decide +kernel) ⟨Nat.le_of_ble_eq_true rfl, Nat.le_of_ble_eq_true rfl⟩) (rd_preV (q := (RX3, TX3, 9)) hP hK 0 rfl rfl) rfl rfl hl.1 rfl (lv_room (Nat.le_of_ble_eq_true rfl)) dX3_finishOldest_19 ⟨Nat.zero_le _, Nat.zero_le _⟩) ?_
  refine W.eq (g2 := F0 m 22 ls (.int (b2i (inB (f 14 (n 8)) (n 0))) :: [])) rfl ?_
  refine lv_if_eq (tgt := 54) hx hb dX3_finishOldest_22 (by decide) (fun c_1 => ?_) (fun c_1 => absurd (b2i_t c_1) (by rw [hr0, inB_m1]; decide))
  have c_1 : inB (f 14 (n 8)) (n 0) = false := b2i_f c_1
  refine lv_aload_n hx hb dX3_finishOldest_54 rfl (lv_at hl 2 rfl) ?_
  refine va_get (D := (dC, dI)) (ci := 4) (v := .ref (a 2)) (C := RX3) (T := TX3) (N := 9) hx hb hts hinX3 hown hK hP 0 rfl rfl 1 (by decide) (hts (.fieldLink RX3 27 "RenameRows" "ring" "LRenameRows$Ring;") (by decide +kernel)) (fun _ h9 => h9) rfl dX3_finishOldest_55 ?_
  refine wr_callv (va_runV (As := []) (rest := []) ⟨hx, hb, hml, hown, hts⟩ (c_X2_dropOldest l dC dI cs a n f s.heap.size hB (by first | omega | assumption)) (cwV 0 hts gX3_finishOldest_X2_dropOldest rfl rfl rfl (by decide +kernel) ⟨Nat.le_of_ble_eq_true rfl, Nat.le_of_ble_eq_true rfl⟩) (wr_preV (q := (RX2, TX2, 10)) hP hK hD 2 rfl rfl) rfl rfl hl.1 rfl (lv_room (Nat.le_of_ble_eq_true rfl)) dX3_finishOldest_58 ⟨Nat.zero_le _, Nat.zero_le _⟩) hS hD hA rfl (fun H locs hP hD hS => ?_)
  have hP : va_P (dC, dI) vwCl (wX cs a (un (un (un n 8 (x_pos n 1)) 9 ((n 9) - 1)) 10 ((n 10) + 1)) f) H := hP
  have hD : va_D A (wX cs a (un (un (un n 8 (x_pos n 1)) 9 ((n 9) - 1)) 10 ((n 10) + 1)) f) := hD
  have hP : va_P (dC, dI) vwCl (wX cs a (x_dN n) f) H := by
    have e9 : (wX cs a (un (un (un n 8 (x_pos n 1)) 9 ((n 9) - 1)) 10 ((n 10) + 1)) f) = (wX cs a (x_dN n) f) := by rfl
    rw [← e9]; exact hP
  exact wr_vret hx hb hr hlocks hP hS dX3_finishOldest_61

set_option maxHeartbeats 4000000 in
set_option maxRecDepth 100000 in
theorem c_X3_finishOldest_r (l : Launch) (dC : Nat → ClassId) (dI : Nat → Nat → Nat) (cs : ClassId × ClassId) (a n : Nat → Nat) (f : Nat → Nat → Int32) (sz : Nat) (r q : Nat) (hr1 : f 14 (n 8) = nI r) (hq : f 13 (n 8) = nI q) (hB : x_bd n) (h1 : 0 < n 9) (h2 : r < n 0) (h3 : q < n 1) (h4 : ¬ f 7 q = 0) (h5 : n 7 < n 1)  : Met l yX3_finishOldest wsX3_finishOldest ({ frames := 2, cells := 0, slots := 0, locals := 43 }) (wrPc (dC, dI) vwCl (wX cs a n f) (tyl cs) sz [.ref (a 0)]) (wrQ (dC, dI) vwCl (wX cs a (x_dN (x_gN n (uf f 5 (upd (f 5) r (f 12 (n 8)))) q)) (x_gF n (uf f 5 (upd (f 5) r (f 12 (n 8)))) q)) none (va_A (wX cs a n f) sz)) 0 0 (va_A (wX cs a n f) sz) := by
  refine wr_of (cc := cX3_finishOldest) (maxL := 3) (ret := none) (own := RX3) (by decide) rfl rfl (Nat.le_of_ble_eq_true rfl) ?_
  intro p e s m below meth c A hsz hAe hx hb hr hml hts hown hlocks hP hK hD hA hS ls hl
  have hl : lv_has ls 3 [(0, .ref (a 0))] := hl
  have hinX3 : ∀ w ∈ wsX30, w ∈ wsX3_finishOldest := by decide +kernel
  obtain ⟨B1, B2, B3, B4, B5, B6, B7, B8, B9, B10, B11, B12, B13, B14, B15⟩ := id hB
  have ho : x_old n = nI (n 8) := by simp [x_old]; omega
  refine lv_aload_n hx hb dX3_finishOldest_0 rfl (lv_at hl 0 rfl) ?_
  refine va_get (D := (dC, dI)) (ci := 4) (v := .ref (a 2)) (C := RX3) (T := TX3) (N := 9) hx hb hts hinX3 hown hK hP 0 rfl rfl 1 (by decide) (hts (.fieldLink RX3 27 "RenameRows" "ring" "LRenameRows$Ring;") (by decide +kernel)) (fun _ h9 => h9) rfl dX3_finishOldest_1 ?_
  refine W.callR (W.runV (As := []) (rest := []) ⟨hx, hb, hml, hown, hts⟩ (c_X2_oldestPlace l dC dI cs a n f hB) (cwV 0 hts gX3_finishOldest_X2_oldestPlace rfl rfl rfl (by decide +kernel) ⟨Nat.le_of_ble_eq_true rfl, Nat.le_of_ble_eq_true rfl⟩) (rd_preV (q := (RX2, TX2, 10)) hP hK 2 rfl rfl) rfl rfl hl.1 rfl (lv_room (Nat.le_of_ble_eq_true rfl)) dX3_finishOldest_4 ⟨Nat.zero_le _, Nat.zero_le _⟩) ?_
  refine W.eq (g2 := F0 m 7 ls (.int (x_old n) :: [])) rfl ?_
  refine tp_eq ho ?_
  refine lv_istore_n (lv' := [(1, .int (nI (n 8))), (0, .ref (a 0))]) hx hb dX3_finishOldest_7 rfl hl (by decide) rfl (fun ls hl => ?_)
  refine lv_aload_n hx hb dX3_finishOldest_8 rfl (lv_at hl 1 rfl) ?_
  refine va_get (D := (dC, dI)) (ci := 4) (v := .ref (a 2)) (C := RX3) (T := TX3) (N := 9) hx hb hts hinX3 hown hK hP 0 rfl rfl 1 (by decide) (hts (.fieldLink RX3 27 "RenameRows" "ring" "LRenameRows$Ring;") (by decide +kernel)) (fun _ h9 => h9) rfl dX3_finishOldest_9 ?_
  refine lv_iload_n hx hb dX3_finishOldest_12 rfl (lv_at hl 0 rfl) ?_
  refine W.callR (W.runV (As := [.int (nI (n 8))]) (rest := []) ⟨hx, hb, hml, hown, hts⟩ (c_X2_registerAt l dC dI cs a n f (nI (n 8)) hB) (cwV 1 hts gX3_finishOldest_X2_registerAt rfl rfl rfl (by decide +kernel) ⟨Nat.le_of_ble_eq_true rfl, Nat.le_of_ble_eq_true rfl⟩) (rd_preV (q := (RX2, TX2, 10)) hP hK 2 rfl rfl) rfl rfl hl.1 rfl (lv_room (Nat.le_of_ble_eq_true rfl)) dX3_finishOldest_13 ⟨Nat.zero_le _, Nat.zero_le _⟩) ?_
  refine W.eq (g2 := F0 m 16 ls (.int (x_at 14 n f (nI (n 8))) :: [])) rfl ?_
  refine tp_eq (x_at_nI (by omega) (by omega)) ?_
  refine W.eq (g2 := F0 m 16 ls (.int (f 14 (n 8)) :: [])) rfl ?_
  refine tp_eq hr1 ?_
  refine lv_istore_n (lv' := [(2, .int (nI r)), (1, .int (nI (n 8))), (0, .ref (a 0))]) hx hb dX3_finishOldest_16 rfl hl (by decide) rfl (fun ls hl => ?_)
  refine lv_aload_n hx hb dX3_finishOldest_17 rfl (lv_at hl 2 rfl) ?_
  refine lv_iload_n hx hb dX3_finishOldest_18 rfl (lv_at hl 0 rfl) ?_
  refine W.callR (W.runV (As := [.int (nI r)]) (rest := []) ⟨hx, hb, hml, hown, hts⟩ (c_X3_isRegister l dC dI cs a n f (nI r) hB) (cwV 1 hts gX3_finishOldest_X3_isRegister rfl rfl rfl (by decide +kernel) ⟨Nat.le_of_ble_eq_true rfl, Nat.le_of_ble_eq_true rfl⟩) (rd_preV (q := (RX3, TX3, 9)) hP hK 0 rfl rfl) rfl rfl hl.1 rfl (lv_room (Nat.le_of_ble_eq_true rfl)) dX3_finishOldest_19 ⟨Nat.zero_le _, Nat.zero_le _⟩) ?_
  refine W.eq (g2 := F0 m 22 ls (.int (b2i (inB (nI r) (n 0))) :: [])) rfl ?_
  refine lv_if_eq (tgt := 54) hx hb dX3_finishOldest_22 (by decide) (fun c_1 => absurd (b2i_f c_1) (by rw [inB_nI (by omega) (by omega)]; simp; omega)) (fun c_1 => ?_)
  have c_1 : inB (nI r) (n 0) = true := b2i_t c_1
  refine lv_aload_n hx hb dX3_finishOldest_25 rfl (lv_at hl 2 rfl) ?_
  refine va_get (D := (dC, dI)) (ci := 4) (v := .ref (a 5)) (C := RX3) (T := TX3) (N := 9) hx hb hts hinX3 hown hK hP 0 rfl rfl 4 (by decide) (hts (.fieldLink RX3 42 "RenameRows" "nameSure" "[I") (by decide +kernel)) (fun _ h9 => h9) rfl dX3_finishOldest_26 ?_
  refine lv_iload_n hx hb dX3_finishOldest_29 rfl (lv_at hl 0 rfl) ?_
  refine lv_aload_n hx hb dX3_finishOldest_30 rfl (lv_at hl 2 rfl) ?_
  refine va_get (D := (dC, dI)) (ci := 4) (v := .ref (a 2)) (C := RX3) (T := TX3) (N := 9) hx hb hts hinX3 hown hK hP 0 rfl rfl 1 (by decide) (hts (.fieldLink RX3 27 "RenameRows" "ring" "LRenameRows$Ring;") (by decide +kernel)) (fun _ h9 => h9) rfl dX3_finishOldest_31 ?_
  refine lv_iload_n hx hb dX3_finishOldest_34 rfl (lv_at hl 1 rfl) ?_
  refine W.callR (W.runV (As := [.int (nI (n 8))]) (rest := [.int (nI r), .ref (a 5)]) ⟨hx, hb, hml, hown, hts⟩ (c_X2_givenAt l dC dI cs a n f (nI (n 8)) hB) (cwV 1 hts gX3_finishOldest_X2_givenAt rfl rfl rfl (by decide +kernel) ⟨Nat.le_of_ble_eq_true rfl, Nat.le_of_ble_eq_true rfl⟩) (rd_preV (q := (RX2, TX2, 10)) hP hK 2 rfl rfl) rfl rfl hl.1 rfl (lv_room (Nat.le_of_ble_eq_true rfl)) dX3_finishOldest_35 ⟨Nat.zero_le _, Nat.zero_le _⟩) ?_
  refine W.eq (g2 := F0 m 38 ls (.int (x_at 12 n f (nI (n 8))) :: [.int (nI r), .ref (a 5)])) rfl ?_
  refine tp_eq (x_at_nI (by omega) (by omega)) ?_
  refine W.eq (g2 := F0 m 38 ls (.int (f 12 (n 8)) :: [.int (nI r), .ref (a 5)])) rfl ?_
  refine ar_st (D := (dC, dI)) (n := n 0) (f := f 5) hx hb hK hP hD hS 5 0 rfl rfl (by omega) (by omega) dX3_finishOldest_38 (fun H locs hP hD hS => ?_)
  have hP : va_P (dC, dI) vwCl (wX cs a n (uf f 5 (upd (f 5) r (f 12 (n 8))))) H := hP
  have hD : va_D A (wX cs a n (uf f 5 (upd (f 5) r (f 12 (n 8))))) := hD
  refine lv_aload_n hx hb dX3_finishOldest_39 rfl (lv_at hl 2 rfl) ?_
  refine va_get (D := (dC, dI)) (ci := 4) (v := .ref (a 1)) (C := RX3) (T := TX3) (N := 9) hx hb hts hinX3 hown hK hP 0 rfl rfl 0 (by decide) (hts (.fieldLink RX3 18 "RenameRows" "names" "LRenameRows$Names;") (by decide +kernel)) (fun _ h9 => h9) rfl dX3_finishOldest_40 ?_
  refine lv_aload_n hx hb dX3_finishOldest_43 rfl (lv_at hl 2 rfl) ?_
  refine va_get (D := (dC, dI)) (ci := 4) (v := .ref (a 2)) (C := RX3) (T := TX3) (N := 9) hx hb hts hinX3 hown hK hP 0 rfl rfl 1 (by decide) (hts (.fieldLink RX3 27 "RenameRows" "ring" "LRenameRows$Ring;") (by decide +kernel)) (fun _ h9 => h9) rfl dX3_finishOldest_44 ?_
  refine lv_iload_n hx hb dX3_finishOldest_47 rfl (lv_at hl 1 rfl) ?_
  refine W.callR (W.runV (As := [.int (nI (n 8))]) (rest := [.ref (a 1)]) ⟨hx, hb, hml, hown, hts⟩ (c_X2_knownAt l dC dI cs a n (uf f 5 (upd (f 5) r (f 12 (n 8)))) (nI (n 8)) hB) (cwV 1 hts gX3_finishOldest_X2_knownAt rfl rfl rfl (by decide +kernel) ⟨Nat.le_of_ble_eq_true rfl, Nat.le_of_ble_eq_true rfl⟩) (rd_preV (q := (RX2, TX2, 10)) hP hK 2 rfl rfl) rfl rfl hl.1 rfl (lv_room (Nat.le_of_ble_eq_true rfl)) dX3_finishOldest_48 ⟨Nat.zero_le _, Nat.zero_le _⟩) ?_
  refine W.eq (g2 := F0 m 51 ls (.int (x_at 13 n (uf f 5 (upd (f 5) r (f 12 (n 8)))) (nI (n 8))) :: [.ref (a 1)])) rfl ?_
  refine tp_eq (x_at_nI (by omega) (by omega)) ?_
  refine W.eq (g2 := F0 m 51 ls (.int (f 13 (n 8)) :: [.ref (a 1)])) rfl ?_
  refine tp_eq hq ?_
  refine wr_callv (va_runV (As := [.int (nI q)]) (rest := []) ⟨hx, hb, hml, hown, hts⟩ (c_X1_giveBack l dC dI cs a n (uf f 5 (upd (f 5) r (f 12 (n 8)))) H.size q hB (by first | omega | assumption | exact h4) (by first | omega | assumption | exact h4) (by first | omega | assumption | exact h4)) (cwV 1 hts gX3_finishOldest_X1_giveBack rfl rfl rfl (by decide +kernel) ⟨Nat.le_of_ble_eq_true rfl, Nat.le_of_ble_eq_true rfl⟩) (wr_preV (q := (RX1, TX1, 5)) hP hK hD 1 rfl rfl) rfl rfl hl.1 rfl (lv_room (Nat.le_of_ble_eq_true rfl)) dX3_finishOldest_51 ⟨Nat.zero_le _, Nat.zero_le _⟩) hS hD hA rfl (fun H locs hP hD hS => ?_)
  have hP : va_P (dC, dI) vwCl (wX cs a (x_gN n (uf f 5 (upd (f 5) r (f 12 (n 8)))) q) (x_gF n (uf f 5 (upd (f 5) r (f 12 (n 8)))) q)) H := hP
  have hD : va_D A (wX cs a (x_gN n (uf f 5 (upd (f 5) r (f 12 (n 8)))) q) (x_gF n (uf f 5 (upd (f 5) r (f 12 (n 8)))) q)) := hD
  have hB : x_bd (x_gN n (uf f 5 (upd (f 5) r (f 12 (n 8)))) q) := by exact x_gN_bd hB (by omega)
  have kg0 : (x_gN n (uf f 5 (upd (f 5) r (f 12 (n 8)))) q) 0 = n 0 := by (rw [x_gN_o (by decide)]; try rfl)
  have kg1 : (x_gN n (uf f 5 (upd (f 5) r (f 12 (n 8)))) q) 1 = n 1 := by (rw [x_gN_o (by decide)]; try rfl)
  have kg2 : (x_gN n (uf f 5 (upd (f 5) r (f 12 (n 8)))) q) 2 = n 2 := by (rw [x_gN_o (by decide)]; try rfl)
  have kg8 : (x_gN n (uf f 5 (upd (f 5) r (f 12 (n 8)))) q) 8 = n 8 := by (rw [x_gN_o (by decide)]; try rfl)
  have kg9 : (x_gN n (uf f 5 (upd (f 5) r (f 12 (n 8)))) q) 9 = n 9 := by (rw [x_gN_o (by decide)]; try rfl)
  have kg10 : (x_gN n (uf f 5 (upd (f 5) r (f 12 (n 8)))) q) 10 = n 10 := by (rw [x_gN_o (by decide)]; try rfl)
  have hB0 := hB
  refine lv_aload_n hx hb dX3_finishOldest_54 rfl (lv_at hl 2 rfl) ?_
  refine va_get (D := (dC, dI)) (ci := 4) (v := .ref (a 2)) (C := RX3) (T := TX3) (N := 9) hx hb hts hinX3 hown hK hP 0 rfl rfl 1 (by decide) (hts (.fieldLink RX3 27 "RenameRows" "ring" "LRenameRows$Ring;") (by decide +kernel)) (fun _ h9 => h9) rfl dX3_finishOldest_55 ?_
  refine wr_callv (va_runV (As := []) (rest := []) ⟨hx, hb, hml, hown, hts⟩ (c_X2_dropOldest l dC dI cs a (x_gN n (uf f 5 (upd (f 5) r (f 12 (n 8)))) q) (x_gF n (uf f 5 (upd (f 5) r (f 12 (n 8)))) q) H.size hB (by first | omega | assumption | exact h4)) (cwV 0 hts gX3_finishOldest_X2_dropOldest rfl rfl rfl (by decide +kernel) ⟨Nat.le_of_ble_eq_true rfl, Nat.le_of_ble_eq_true rfl⟩) (wr_preV (q := (RX2, TX2, 10)) hP hK hD 2 rfl rfl) rfl rfl hl.1 rfl (lv_room (Nat.le_of_ble_eq_true rfl)) dX3_finishOldest_58 ⟨Nat.zero_le _, Nat.zero_le _⟩) hS hD hA rfl (fun H locs hP hD hS => ?_)
  have hP : va_P (dC, dI) vwCl (wX cs a (un (un (un (x_gN n (uf f 5 (upd (f 5) r (f 12 (n 8)))) q) 8 (x_pos (x_gN n (uf f 5 (upd (f 5) r (f 12 (n 8)))) q) 1)) 9 (((x_gN n (uf f 5 (upd (f 5) r (f 12 (n 8)))) q) 9) - 1)) 10 (((x_gN n (uf f 5 (upd (f 5) r (f 12 (n 8)))) q) 10) + 1)) (x_gF n (uf f 5 (upd (f 5) r (f 12 (n 8)))) q)) H := hP
  have hD : va_D A (wX cs a (un (un (un (x_gN n (uf f 5 (upd (f 5) r (f 12 (n 8)))) q) 8 (x_pos (x_gN n (uf f 5 (upd (f 5) r (f 12 (n 8)))) q) 1)) 9 (((x_gN n (uf f 5 (upd (f 5) r (f 12 (n 8)))) q) 9) - 1)) 10 (((x_gN n (uf f 5 (upd (f 5) r (f 12 (n 8)))) q) 10) + 1)) (x_gF n (uf f 5 (upd (f 5) r (f 12 (n 8)))) q)) := hD
  have hP : va_P (dC, dI) vwCl (wX cs a (x_dN (x_gN n (uf f 5 (upd (f 5) r (f 12 (n 8)))) q)) (x_gF n (uf f 5 (upd (f 5) r (f 12 (n 8)))) q)) H := by
    have e9 : (wX cs a (un (un (un (x_gN n (uf f 5 (upd (f 5) r (f 12 (n 8)))) q) 8 (x_pos (x_gN n (uf f 5 (upd (f 5) r (f 12 (n 8)))) q) 1)) 9 (((x_gN n (uf f 5 (upd (f 5) r (f 12 (n 8)))) q) 9) - 1)) 10 (((x_gN n (uf f 5 (upd (f 5) r (f 12 (n 8)))) q) 10) + 1)) (x_gF n (uf f 5 (upd (f 5) r (f 12 (n 8)))) q)) = (wX cs a (x_dN (x_gN n (uf f 5 (upd (f 5) r (f 12 (n 8)))) q)) (x_gF n (uf f 5 (upd (f 5) r (f 12 (n 8)))) q)) := by rfl
    rw [← e9]; exact hP
  exact wr_vret hx hb hr hlocks hP hS dX3_finishOldest_61

set_option maxHeartbeats 4000000 in
set_option maxRecDepth 100000 in
theorem c_X3_takeBackLast_0 (l : Launch) (dC : Nat → ClassId) (dI : Nat → Nat → Nat) (cs : ClassId × ClassId) (a n : Nat → Nat) (f : Nat → Nat → Int32) (sz : Nat) (hr0 : f 14 (x_lp n) = -1) (hB : x_bd n) (h1 : 0 < n 9)  : Met l yX3_takeBackLast wsX3_takeBackLast ({ frames := 2, cells := 0, slots := 0, locals := 43 }) (wrPc (dC, dI) vwCl (wX cs a n f) (tyl cs) sz [.ref (a 0)]) (wrQ (dC, dI) vwCl (wX cs a (x_lN n) f) none (va_A (wX cs a n f) sz)) 0 0 (va_A (wX cs a n f) sz) := by
  refine wr_of (cc := cX3_takeBackLast) (maxL := 3) (ret := none) (own := RX3) (by decide) rfl rfl (Nat.le_of_ble_eq_true rfl) ?_
  intro p e s m below meth c A hsz hAe hx hb hr hml hts hown hlocks hP hK hD hA hS ls hl
  have hl : lv_has ls 3 [(0, .ref (a 0))] := hl
  have hinX3 : ∀ w ∈ wsX30, w ∈ wsX3_takeBackLast := by decide +kernel
  obtain ⟨B1, B2, B3, B4, B5, B6, B7, B8, B9, B10, B11, B12, B13, B14, B15⟩ := id hB
  have hlp : x_last n = nI (x_lp n) := by simp [x_last, x_lp]; omega
  have hlq : x_lp n < n 2 := x_pos_lt (by omega) (by omega)
  refine lv_aload_n hx hb dX3_takeBackLast_0 rfl (lv_at hl 0 rfl) ?_
  refine va_get (D := (dC, dI)) (ci := 4) (v := .ref (a 2)) (C := RX3) (T := TX3) (N := 9) hx hb hts hinX3 hown hK hP 0 rfl rfl 1 (by decide) (hts (.fieldLink RX3 27 "RenameRows" "ring" "LRenameRows$Ring;") (by decide +kernel)) (fun _ h9 => h9) rfl dX3_takeBackLast_1 ?_
  refine W.callR (W.runV (As := []) (rest := []) ⟨hx, hb, hml, hown, hts⟩ (c_X2_lastPlace l dC dI cs a n f hB) (cwV 0 hts gX3_takeBackLast_X2_lastPlace rfl rfl rfl (by decide +kernel) ⟨Nat.le_of_ble_eq_true rfl, Nat.le_of_ble_eq_true rfl⟩) (rd_preV (q := (RX2, TX2, 10)) hP hK 2 rfl rfl) rfl rfl hl.1 rfl (lv_room (Nat.le_of_ble_eq_true rfl)) dX3_takeBackLast_4 ⟨Nat.zero_le _, Nat.zero_le _⟩) ?_
  refine W.eq (g2 := F0 m 7 ls (.int (x_last n) :: [])) rfl ?_
  refine tp_eq hlp ?_
  refine lv_istore_n (lv' := [(1, .int (nI (x_lp n))), (0, .ref (a 0))]) hx hb dX3_takeBackLast_7 rfl hl (by decide) rfl (fun ls hl => ?_)
  refine lv_aload_n hx hb dX3_takeBackLast_8 rfl (lv_at hl 1 rfl) ?_
  refine va_get (D := (dC, dI)) (ci := 4) (v := .ref (a 2)) (C := RX3) (T := TX3) (N := 9) hx hb hts hinX3 hown hK hP 0 rfl rfl 1 (by decide) (hts (.fieldLink RX3 27 "RenameRows" "ring" "LRenameRows$Ring;") (by decide +kernel)) (fun _ h9 => h9) rfl dX3_takeBackLast_9 ?_
  refine lv_iload_n hx hb dX3_takeBackLast_12 rfl (lv_at hl 0 rfl) ?_
  refine W.callR (W.runV (As := [.int (nI (x_lp n))]) (rest := []) ⟨hx, hb, hml, hown, hts⟩ (c_X2_registerAt l dC dI cs a n f (nI (x_lp n)) hB) (cwV 1 hts gX3_takeBackLast_X2_registerAt rfl rfl rfl (by decide +kernel) ⟨Nat.le_of_ble_eq_true rfl, Nat.le_of_ble_eq_true rfl⟩) (rd_preV (q := (RX2, TX2, 10)) hP hK 2 rfl rfl) rfl rfl hl.1 rfl (lv_room (Nat.le_of_ble_eq_true rfl)) dX3_takeBackLast_13 ⟨Nat.zero_le _, Nat.zero_le _⟩) ?_
  refine W.eq (g2 := F0 m 16 ls (.int (x_at 14 n f (nI (x_lp n))) :: [])) rfl ?_
  refine tp_eq (x_at_nI (by omega) (by omega)) ?_
  refine W.eq (g2 := F0 m 16 ls (.int (f 14 (x_lp n)) :: [])) rfl ?_
  refine lv_istore_n (lv' := [(2, .int (f 14 (x_lp n))), (1, .int (nI (x_lp n))), (0, .ref (a 0))]) hx hb dX3_takeBackLast_16 rfl hl (by decide) rfl (fun ls hl => ?_)
  refine lv_aload_n hx hb dX3_takeBackLast_17 rfl (lv_at hl 2 rfl) ?_
  refine lv_iload_n hx hb dX3_takeBackLast_18 rfl (lv_at hl 0 rfl) ?_
  refine W.callR (W.runV (As := [.int (f 14 (x_lp n))]) (rest := []) ⟨hx, hb, hml, hown, hts⟩ (c_X3_isRegister l dC dI cs a n f (f 14 (x_lp n)) hB) (cwV 1 hts gX3_takeBackLast_X3_isRegister rfl rfl rfl (by decide +kernel) ⟨Nat.le_of_ble_eq_true rfl, Nat.le_of_ble_eq_true rfl⟩) (rd_preV (q := (RX3, TX3, 9)) hP hK 0 rfl rfl) rfl rfl hl.1 rfl (lv_room (Nat.le_of_ble_eq_true rfl)) dX3_takeBackLast_19 ⟨Nat.zero_le _, Nat.zero_le _⟩) ?_
  refine W.eq (g2 := F0 m 22 ls (.int (b2i (inB (f 14 (x_lp n)) (n 0))) :: [])) rfl ?_
  refine lv_if_eq (tgt := 54) hx hb dX3_takeBackLast_22 (by decide) (fun c_1 => ?_) (fun c_1 => absurd (b2i_t c_1) (by rw [hr0, inB_m1]; decide))
  have c_1 : inB (f 14 (x_lp n)) (n 0) = false := b2i_f c_1
  refine lv_aload_n hx hb dX3_takeBackLast_54 rfl (lv_at hl 2 rfl) ?_
  refine va_get (D := (dC, dI)) (ci := 4) (v := .ref (a 2)) (C := RX3) (T := TX3) (N := 9) hx hb hts hinX3 hown hK hP 0 rfl rfl 1 (by decide) (hts (.fieldLink RX3 27 "RenameRows" "ring" "LRenameRows$Ring;") (by decide +kernel)) (fun _ h9 => h9) rfl dX3_takeBackLast_55 ?_
  refine wr_callv (va_runV (As := []) (rest := []) ⟨hx, hb, hml, hown, hts⟩ (c_X2_dropLast l dC dI cs a n f s.heap.size hB (by first | omega | assumption)) (cwV 0 hts gX3_takeBackLast_X2_dropLast rfl rfl rfl (by decide +kernel) ⟨Nat.le_of_ble_eq_true rfl, Nat.le_of_ble_eq_true rfl⟩) (wr_preV (q := (RX2, TX2, 10)) hP hK hD 2 rfl rfl) rfl rfl hl.1 rfl (lv_room (Nat.le_of_ble_eq_true rfl)) dX3_takeBackLast_58 ⟨Nat.zero_le _, Nat.zero_le _⟩) hS hD hA rfl (fun H locs hP hD hS => ?_)
  have hP : va_P (dC, dI) vwCl (wX cs a (un n 9 ((n 9) - 1)) f) H := hP
  have hD : va_D A (wX cs a (un n 9 ((n 9) - 1)) f) := hD
  have hP : va_P (dC, dI) vwCl (wX cs a (x_lN n) f) H := by
    have e9 : (wX cs a (un n 9 ((n 9) - 1)) f) = (wX cs a (x_lN n) f) := by rfl
    rw [← e9]; exact hP
  exact wr_vret hx hb hr hlocks hP hS dX3_takeBackLast_61

set_option maxHeartbeats 4000000 in
set_option maxRecDepth 100000 in
theorem c_X3_takeBackLast_r (l : Launch) (dC : Nat → ClassId) (dI : Nat → Nat → Nat) (cs : ClassId × ClassId) (a n : Nat → Nat) (f : Nat → Nat → Int32) (sz : Nat) (r q : Nat) (hr1 : f 14 (x_lp n) = nI r) (hq : f 12 (x_lp n) = nI q) (hB : x_bd n) (h1 : 0 < n 9) (h2 : r < n 0) (h3 : q < n 1) (h4 : ¬ f 7 q = 0) (h5 : n 7 < n 1)  : Met l yX3_takeBackLast wsX3_takeBackLast ({ frames := 2, cells := 0, slots := 0, locals := 43 }) (wrPc (dC, dI) vwCl (wX cs a n f) (tyl cs) sz [.ref (a 0)]) (wrQ (dC, dI) vwCl (wX cs a (x_lN (x_gN n f q)) (uf (x_gF n f q) 4 (upd (x_gF n f q 4) r (f 13 (x_lp n))))) none (va_A (wX cs a n f) sz)) 0 0 (va_A (wX cs a n f) sz) := by
  refine wr_of (cc := cX3_takeBackLast) (maxL := 3) (ret := none) (own := RX3) (by decide) rfl rfl (Nat.le_of_ble_eq_true rfl) ?_
  intro p e s m below meth c A hsz hAe hx hb hr hml hts hown hlocks hP hK hD hA hS ls hl
  have hl : lv_has ls 3 [(0, .ref (a 0))] := hl
  have hinX3 : ∀ w ∈ wsX30, w ∈ wsX3_takeBackLast := by decide +kernel
  obtain ⟨B1, B2, B3, B4, B5, B6, B7, B8, B9, B10, B11, B12, B13, B14, B15⟩ := id hB
  have hlp : x_last n = nI (x_lp n) := by simp [x_last, x_lp]; omega
  have hlq : x_lp n < n 2 := x_pos_lt (by omega) (by omega)
  refine lv_aload_n hx hb dX3_takeBackLast_0 rfl (lv_at hl 0 rfl) ?_
  refine va_get (D := (dC, dI)) (ci := 4) (v := .ref (a 2)) (C := RX3) (T := TX3) (N := 9) hx hb hts hinX3 hown hK hP 0 rfl rfl 1 (by decide) (hts (.fieldLink RX3 27 "RenameRows" "ring" "LRenameRows$Ring;") (by decide +kernel)) (fun _ h9 => h9) rfl dX3_takeBackLast_1 ?_
  refine W.callR (W.runV (As := []) (rest := []) ⟨hx, hb, hml, hown, hts⟩ (c_X2_lastPlace l dC dI cs a n f hB) (cwV 0 hts gX3_takeBackLast_X2_lastPlace rfl rfl rfl (by decide +kernel) ⟨Nat.le_of_ble_eq_true rfl, Nat.le_of_ble_eq_true rfl⟩) (rd_preV (q := (RX2, TX2, 10)) hP hK 2 rfl rfl) rfl rfl hl.1 rfl (lv_room (Nat.le_of_ble_eq_true rfl)) dX3_takeBackLast_4 ⟨Nat.zero_le _, Nat.zero_le _⟩) ?_
  refine W.eq (g2 := F0 m 7 ls (.int (x_last n) :: [])) rfl ?_
  refine tp_eq hlp ?_
  refine lv_istore_n (lv' := [(1, .int (nI (x_lp n))), (0, .ref (a 0))]) hx hb dX3_takeBackLast_7 rfl hl (by decide) rfl (fun ls hl => ?_)
  refine lv_aload_n hx hb dX3_takeBackLast_8 rfl (lv_at hl 1 rfl) ?_
  refine va_get (D := (dC, dI)) (ci := 4) (v := .ref (a 2)) (C := RX3) (T := TX3) (N := 9) hx hb hts hinX3 hown hK hP 0 rfl rfl 1 (by decide) (hts (.fieldLink RX3 27 "RenameRows" "ring" "LRenameRows$Ring;") (by decide +kernel)) (fun _ h9 => h9) rfl dX3_takeBackLast_9 ?_
  refine lv_iload_n hx hb dX3_takeBackLast_12 rfl (lv_at hl 0 rfl) ?_
  refine W.callR (W.runV (As := [.int (nI (x_lp n))]) (rest := []) ⟨hx, hb, hml, hown, hts⟩ (c_X2_registerAt l dC dI cs a n f (nI (x_lp n)) hB) (cwV 1 hts gX3_takeBackLast_X2_registerAt rfl rfl rfl (by decide +kernel) ⟨Nat.le_of_ble_eq_true rfl, Nat.le_of_ble_eq_true rfl⟩) (rd_preV (q := (RX2, TX2, 10)) hP hK 2 rfl rfl) rfl rfl hl.1 rfl (lv_room (Nat.le_of_ble_eq_true rfl)) dX3_takeBackLast_13 ⟨Nat.zero_le _, Nat.zero_le _⟩) ?_
  refine W.eq (g2 := F0 m 16 ls (.int (x_at 14 n f (nI (x_lp n))) :: [])) rfl ?_
  refine tp_eq (x_at_nI (by omega) (by omega)) ?_
  refine W.eq (g2 := F0 m 16 ls (.int (f 14 (x_lp n)) :: [])) rfl ?_
  refine tp_eq hr1 ?_
  refine lv_istore_n (lv' := [(2, .int (nI r)), (1, .int (nI (x_lp n))), (0, .ref (a 0))]) hx hb dX3_takeBackLast_16 rfl hl (by decide) rfl (fun ls hl => ?_)
  refine lv_aload_n hx hb dX3_takeBackLast_17 rfl (lv_at hl 2 rfl) ?_
  refine lv_iload_n hx hb dX3_takeBackLast_18 rfl (lv_at hl 0 rfl) ?_
  refine W.callR (W.runV (As := [.int (nI r)]) (rest := []) ⟨hx, hb, hml, hown, hts⟩ (c_X3_isRegister l dC dI cs a n f (nI r) hB) (cwV 1 hts gX3_takeBackLast_X3_isRegister rfl rfl rfl (by decide +kernel) ⟨Nat.le_of_ble_eq_true rfl, Nat.le_of_ble_eq_true rfl⟩) (rd_preV (q := (RX3, TX3, 9)) hP hK 0 rfl rfl) rfl rfl hl.1 rfl (lv_room (Nat.le_of_ble_eq_true rfl)) dX3_takeBackLast_19 ⟨Nat.zero_le _, Nat.zero_le _⟩) ?_
  refine W.eq (g2 := F0 m 22 ls (.int (b2i (inB (nI r) (n 0))) :: [])) rfl ?_
  refine lv_if_eq (tgt := 54) hx hb dX3_takeBackLast_22 (by decide) (fun c_1 => absurd (b2i_f c_1) (by rw [inB_nI (by omega) (by omega)]; simp; omega)) (fun c_1 => ?_)
  have c_1 : inB (nI r) (n 0) = true := b2i_t c_1
  refine lv_aload_n hx hb dX3_takeBackLast_25 rfl (lv_at hl 2 rfl) ?_
  refine va_get (D := (dC, dI)) (ci := 4) (v := .ref (a 1)) (C := RX3) (T := TX3) (N := 9) hx hb hts hinX3 hown hK hP 0 rfl rfl 0 (by decide) (hts (.fieldLink RX3 18 "RenameRows" "names" "LRenameRows$Names;") (by decide +kernel)) (fun _ h9 => h9) rfl dX3_takeBackLast_26 ?_
  refine lv_aload_n hx hb dX3_takeBackLast_29 rfl (lv_at hl 2 rfl) ?_
  refine va_get (D := (dC, dI)) (ci := 4) (v := .ref (a 2)) (C := RX3) (T := TX3) (N := 9) hx hb hts hinX3 hown hK hP 0 rfl rfl 1 (by decide) (hts (.fieldLink RX3 27 "RenameRows" "ring" "LRenameRows$Ring;") (by decide +kernel)) (fun _ h9 => h9) rfl dX3_takeBackLast_30 ?_
  refine lv_iload_n hx hb dX3_takeBackLast_33 rfl (lv_at hl 1 rfl) ?_
  refine W.callR (W.runV (As := [.int (nI (x_lp n))]) (rest := [.ref (a 1)]) ⟨hx, hb, hml, hown, hts⟩ (c_X2_givenAt l dC dI cs a n f (nI (x_lp n)) hB) (cwV 1 hts gX3_takeBackLast_X2_givenAt rfl rfl rfl (by decide +kernel) ⟨Nat.le_of_ble_eq_true rfl, Nat.le_of_ble_eq_true rfl⟩) (rd_preV (q := (RX2, TX2, 10)) hP hK 2 rfl rfl) rfl rfl hl.1 rfl (lv_room (Nat.le_of_ble_eq_true rfl)) dX3_takeBackLast_34 ⟨Nat.zero_le _, Nat.zero_le _⟩) ?_
  refine W.eq (g2 := F0 m 37 ls (.int (x_at 12 n f (nI (x_lp n))) :: [.ref (a 1)])) rfl ?_
  refine tp_eq (x_at_nI (by omega) (by omega)) ?_
  refine W.eq (g2 := F0 m 37 ls (.int (f 12 (x_lp n)) :: [.ref (a 1)])) rfl ?_
  refine tp_eq hq ?_
  refine wr_callv (va_runV (As := [.int (nI q)]) (rest := []) ⟨hx, hb, hml, hown, hts⟩ (c_X1_giveBack l dC dI cs a n f s.heap.size q hB (by first | omega | assumption | exact h4) (by first | omega | assumption | exact h4) (by first | omega | assumption | exact h4)) (cwV 1 hts gX3_takeBackLast_X1_giveBack rfl rfl rfl (by decide +kernel) ⟨Nat.le_of_ble_eq_true rfl, Nat.le_of_ble_eq_true rfl⟩) (wr_preV (q := (RX1, TX1, 5)) hP hK hD 1 rfl rfl) rfl rfl hl.1 rfl (lv_room (Nat.le_of_ble_eq_true rfl)) dX3_takeBackLast_37 ⟨Nat.zero_le _, Nat.zero_le _⟩) hS hD hA rfl (fun H locs hP hD hS => ?_)
  have hP : va_P (dC, dI) vwCl (wX cs a (x_gN n f q) (x_gF n f q)) H := hP
  have hD : va_D A (wX cs a (x_gN n f q) (x_gF n f q)) := hD
  have hB : x_bd (x_gN n f q) := by exact x_gN_bd hB (by omega)
  have kg0 : (x_gN n f q) 0 = n 0 := by (rw [x_gN_o (by decide)]; try rfl)
  have kg1 : (x_gN n f q) 1 = n 1 := by (rw [x_gN_o (by decide)]; try rfl)
  have kg2 : (x_gN n f q) 2 = n 2 := by (rw [x_gN_o (by decide)]; try rfl)
  have kg8 : (x_gN n f q) 8 = n 8 := by (rw [x_gN_o (by decide)]; try rfl)
  have kg9 : (x_gN n f q) 9 = n 9 := by (rw [x_gN_o (by decide)]; try rfl)
  have kg10 : (x_gN n f q) 10 = n 10 := by (rw [x_gN_o (by decide)]; try rfl)
  have hB0 := hB
  refine lv_aload_n hx hb dX3_takeBackLast_40 rfl (lv_at hl 2 rfl) ?_
  refine va_get (D := (dC, dI)) (ci := 4) (v := .ref (a 4)) (C := RX3) (T := TX3) (N := 9) hx hb hts hinX3 hown hK hP 0 rfl rfl 3 (by decide) (hts (.fieldLink RX3 38 "RenameRows" "nameNow" "[I") (by decide +kernel)) (fun _ h9 => h9) rfl dX3_takeBackLast_41 ?_
  refine lv_iload_n hx hb dX3_takeBackLast_44 rfl (lv_at hl 0 rfl) ?_
  refine lv_aload_n hx hb dX3_takeBackLast_45 rfl (lv_at hl 2 rfl) ?_
  refine va_get (D := (dC, dI)) (ci := 4) (v := .ref (a 2)) (C := RX3) (T := TX3) (N := 9) hx hb hts hinX3 hown hK hP 0 rfl rfl 1 (by decide) (hts (.fieldLink RX3 27 "RenameRows" "ring" "LRenameRows$Ring;") (by decide +kernel)) (fun _ h9 => h9) rfl dX3_takeBackLast_46 ?_
  refine lv_iload_n hx hb dX3_takeBackLast_49 rfl (lv_at hl 1 rfl) ?_
  refine W.callR (W.runV (As := [.int (nI (x_lp n))]) (rest := [.int (nI r), .ref (a 4)]) ⟨hx, hb, hml, hown, hts⟩ (c_X2_knownAt l dC dI cs a (x_gN n f q) (x_gF n f q) (nI (x_lp n)) hB) (cwV 1 hts gX3_takeBackLast_X2_knownAt rfl rfl rfl (by decide +kernel) ⟨Nat.le_of_ble_eq_true rfl, Nat.le_of_ble_eq_true rfl⟩) (rd_preV (q := (RX2, TX2, 10)) hP hK 2 rfl rfl) rfl rfl hl.1 rfl (lv_room (Nat.le_of_ble_eq_true rfl)) dX3_takeBackLast_50 ⟨Nat.zero_le _, Nat.zero_le _⟩) ?_
  refine W.eq (g2 := F0 m 53 ls (.int (x_at 13 (x_gN n f q) (x_gF n f q) (nI (x_lp n))) :: [.int (nI r), .ref (a 4)])) rfl ?_
  refine tp_eq (x_at_nI (by omega) (by omega)) ?_
  refine W.eq (g2 := F0 m 53 ls (.int ((x_gF n f q) 13 (x_lp n)) :: [.int (nI r), .ref (a 4)])) rfl ?_
  refine tp_eq (y := f 13 (x_lp n)) (by rw [x_gF_o (by decide) (by decide)]) ?_
  refine ar_st (D := (dC, dI)) (n := (x_gN n f q) 0) (f := (x_gF n f q) 4) hx hb hK hP hD hS 4 0 rfl rfl (by omega) (by omega) dX3_takeBackLast_53 (fun H locs hP hD hS => ?_)
  have hP : va_P (dC, dI) vwCl (wX cs a (x_gN n f q) (uf (x_gF n f q) 4 (upd ((x_gF n f q) 4) r (f 13 (x_lp n))))) H := hP
  have hD : va_D A (wX cs a (x_gN n f q) (uf (x_gF n f q) 4 (upd ((x_gF n f q) 4) r (f 13 (x_lp n))))) := hD
  refine lv_aload_n hx hb dX3_takeBackLast_54 rfl (lv_at hl 2 rfl) ?_
  refine va_get (D := (dC, dI)) (ci := 4) (v := .ref (a 2)) (C := RX3) (T := TX3) (N := 9) hx hb hts hinX3 hown hK hP 0 rfl rfl 1 (by decide) (hts (.fieldLink RX3 27 "RenameRows" "ring" "LRenameRows$Ring;") (by decide +kernel)) (fun _ h9 => h9) rfl dX3_takeBackLast_55 ?_
  refine wr_callv (va_runV (As := []) (rest := []) ⟨hx, hb, hml, hown, hts⟩ (c_X2_dropLast l dC dI cs a (x_gN n f q) (uf (x_gF n f q) 4 (upd ((x_gF n f q) 4) r (f 13 (x_lp n)))) H.size hB (by first | omega | assumption | exact h4)) (cwV 0 hts gX3_takeBackLast_X2_dropLast rfl rfl rfl (by decide +kernel) ⟨Nat.le_of_ble_eq_true rfl, Nat.le_of_ble_eq_true rfl⟩) (wr_preV (q := (RX2, TX2, 10)) hP hK hD 2 rfl rfl) rfl rfl hl.1 rfl (lv_room (Nat.le_of_ble_eq_true rfl)) dX3_takeBackLast_58 ⟨Nat.zero_le _, Nat.zero_le _⟩) hS hD hA rfl (fun H locs hP hD hS => ?_)
  have hP : va_P (dC, dI) vwCl (wX cs a (un (x_gN n f q) 9 (((x_gN n f q) 9) - 1)) (uf (x_gF n f q) 4 (upd ((x_gF n f q) 4) r (f 13 (x_lp n))))) H := hP
  have hD : va_D A (wX cs a (un (x_gN n f q) 9 (((x_gN n f q) 9) - 1)) (uf (x_gF n f q) 4 (upd ((x_gF n f q) 4) r (f 13 (x_lp n))))) := hD
  have hP : va_P (dC, dI) vwCl (wX cs a (x_lN (x_gN n f q)) (uf (x_gF n f q) 4 (upd (x_gF n f q 4) r (f 13 (x_lp n))))) H := by
    have e9 : (wX cs a (un (x_gN n f q) 9 (((x_gN n f q) 9) - 1)) (uf (x_gF n f q) 4 (upd ((x_gF n f q) 4) r (f 13 (x_lp n))))) = (wX cs a (x_lN (x_gN n f q)) (uf (x_gF n f q) 4 (upd (x_gF n f q 4) r (f 13 (x_lp n))))) := by rfl
    rw [← e9]; exact hP
  exact wr_vret hx hb hr hlocks hP hS dX3_takeBackLast_61
