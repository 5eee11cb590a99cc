set_option maxHeartbeats 4000000 in
set_option maxRecDepth 100000 in
theorem c_X2_append (l : Launch) (dC : Nat → ClassId) (dI : Nat → Nat → Nat) (cs : ClassId × ClassId) (a n : Nat → Nat) (f : Nat → Nat → Int32) (sz : Nat) (ra : Int32) (rb : Int32) (rg : Int32) (rk : Int32) (rt : Int32) (rs : Int32) (hB : x_bd n) (h1 : n 9 < n 2)  : Met l yX2_append wsX2_append ({ frames := 1, cells := 0, slots := 0, locals := 22 }) (wrPc (dC, dI) vwCl (wX cs a n f) (tyl cs) sz [.ref (a 2), .int ra, .int rb, .int rg, .int rk, .int rt, .int rs]) (wrQ (dC, dI) vwCl (wX cs a (un n 9 ((n 9) + 1)) (x_app n f ra rb rg rk rt rs)) (some (.int (nI (x_pos n (n 9))))) (va_A (wX cs a n f) sz)) 0 0 (va_A (wX cs a n f) sz) := by
  refine wr_of (cc := cX2_append) (maxL := 8) (ret := (some .int)) (own := RX2) (by decide) rfl rfl (Nat.le_of_ble_eq_true rfl) ?_
  intro p e s m below meth c A hsz hAe hx hb hr hml hts hown hlocks hP hK hD hA hS ls hl
  have hl : lv_has ls 8 [(0, .ref (a 2)), (1, .int ra), (2, .int rb), (3, .int rg), (4, .int rk), (5, .int rt), (6, .int rs)] := hl
  have hinX2 : ∀ w ∈ wsX20, w ∈ wsX2_append := by decide +kernel
  obtain ⟨B1, B2, B3, B4, B5, B6, B7, B8, B9, B10, B11, B12, B13, B14, B15⟩ := id hB
  refine lv_aload_n hx hb dX2_append_0 rfl (lv_at hl 0 rfl) ?_
  refine W.callR (W.runV (As := []) (rest := []) ⟨hx, hb, hml, hown, hts⟩ (c_X2_isFull l dC dI cs a n f hB) (cwV 0 hts gX2_append_X2_isFull rfl rfl rfl (by decide +kernel) ⟨Nat.le_of_ble_eq_true rfl, Nat.le_of_ble_eq_true rfl⟩) (rd_preV (q := (RX2, TX2, 10)) hP hK 2 rfl rfl) rfl rfl hl.1 rfl (lv_room (Nat.le_of_ble_eq_true rfl)) dX2_append_1 ⟨Nat.zero_le _, Nat.zero_le _⟩) ?_
  refine W.eq (g2 := F0 m 4 ls (.int (b2i (decide (n 2 ≤ n 9))) :: [])) rfl ?_
  refine lv_if_eq (tgt := 9) hx hb dX2_append_4 (by decide) (fun c_1 => ?_) (fun c_1 => absurd (b2i_t c_1) (by simp; omega))
  have c_1 : decide (n 2 ≤ n 9) = false := b2i_f c_1
  refine lv_aload_n hx hb dX2_append_9 rfl (lv_at hl 0 rfl) ?_
  refine lv_aload_n hx hb dX2_append_10 rfl (lv_at hl 0 rfl) ?_
  refine va_get (D := (dC, dI)) (ci := 3) (v := .int (nI (n 9))) (C := RX2) (T := TX2) (N := 10) hx hb hts hinX2 hown hK hP 2 rfl rfl 8 (by decide) (hts (.fieldLink RX2 33 "RenameRows$Ring" "rows" "I") (by decide +kernel)) (fun _ h9 => h9) rfl dX2_append_11 ?_
  refine W.callR (W.runV (As := [.int (nI (n 9))]) (rest := []) ⟨hx, hb, hml, hown, hts⟩ (c_X2_placeOfAge l dC dI cs a n f (n 9) hB (by omega)) (cwV 1 hts gX2_append_X2_placeOfAge rfl rfl rfl (by decide +kernel) ⟨Nat.le_of_ble_eq_true rfl, Nat.le_of_ble_eq_true rfl⟩) (rd_preV (q := (RX2, TX2, 10)) hP hK 2 rfl rfl) rfl rfl hl.1 rfl (lv_room (Nat.le_of_ble_eq_true rfl)) dX2_append_14 ⟨Nat.zero_le _, Nat.zero_le _⟩) ?_
  refine W.eq (g2 := F0 m 17 ls (.int (nI (x_pos n (n 9))) :: [])) rfl ?_
  have k_2 := x_pos_lt (n := n) (i := (n 9)) (by omega) (by omega)
  refine lv_istore (lv' := [(7, .int (nI (x_pos n (n 9)))), (0, .ref (a 2)), (1, .int ra), (2, .int rb), (3, .int rg), (4, .int rk), (5, .int rt), (6, .int rs)]) hx hb dX2_append_17 hl (by decide) rfl (fun ls hl => ?_)
  refine lv_aload_n hx hb dX2_append_19 rfl (lv_at hl 1 rfl) ?_
  refine va_get (D := (dC, dI)) (ci := 3) (v := .ref (a 10)) (C := RX2) (T := TX2) (N := 10) hx hb hts hinX2 hown hK hP 2 rfl rfl 0 (by decide) (hts (.fieldLink RX2 9 "RenameRows$Ring" "readA" "[I") (by decide +kernel)) (fun _ h9 => h9) rfl dX2_append_20 ?_
  refine lv_iload hx hb dX2_append_23 (lv_at hl 0 rfl) ?_
  refine lv_iload_n hx hb dX2_append_25 rfl (lv_at hl 2 rfl) ?_
  refine ar_st (D := (dC, dI)) (n := n 2) (f := f 10) hx hb hK hP hD hS 10 0 rfl rfl (by omega) (by omega) dX2_append_26 (fun H locs hP hD hS => ?_)
  have hP : va_P (dC, dI) vwCl (wX cs a n (uf f 10 (upd (f 10) (x_pos n (n 9)) ra))) H := hP
  have hD : va_D A (wX cs a n (uf f 10 (upd (f 10) (x_pos n (n 9)) ra))) := hD
  refine lv_aload_n hx hb dX2_append_27 rfl (lv_at hl 1 rfl) ?_
  refine va_get (D := (dC, dI)) (ci := 3) (v := .ref (a 11)) (C := RX2) (T := TX2) (N := 10) hx hb hts hinX2 hown hK hP 2 rfl rfl 1 (by decide) (hts (.fieldLink RX2 15 "RenameRows$Ring" "readB" "[I") (by decide +kernel)) (fun _ h9 => h9) rfl dX2_append_28 ?_
  refine lv_iload hx hb dX2_append_31 (lv_at hl 0 rfl) ?_
  refine lv_iload_n hx hb dX2_append_33 rfl (lv_at hl 3 rfl) ?_
  refine ar_st (D := (dC, dI)) (n := n 2) (f := f 11) hx hb hK hP hD hS 11 0 rfl rfl (by omega) (by omega) dX2_append_34 (fun H locs hP hD hS => ?_)
  have hP : va_P (dC, dI) vwCl (wX cs a n (uf (uf f 10 (upd (f 10) (x_pos n (n 9)) ra)) 11 (upd (f 11) (x_pos n (n 9)) rb))) H := hP
  have hD : va_D A (wX cs a n (uf (uf f 10 (upd (f 10) (x_pos n (n 9)) ra)) 11 (upd (f 11) (x_pos n (n 9)) rb))) := hD
  refine lv_aload_n hx hb dX2_append_35 rfl (lv_at hl 1 rfl) ?_
  refine va_get (D := (dC, dI)) (ci := 3) (v := .ref (a 12)) (C := RX2) (T := TX2) (N := 10) hx hb hts hinX2 hown hK hP 2 rfl rfl 2 (by decide) (hts (.fieldLink RX2 18 "RenameRows$Ring" "given" "[I") (by decide +kernel)) (fun _ h9 => h9) rfl dX2_append_36 ?_
  refine lv_iload hx hb dX2_append_39 (lv_at hl 0 rfl) ?_
  refine lv_iload_n hx hb dX2_append_41 rfl (lv_at hl 4 rfl) ?_
  refine ar_st (D := (dC, dI)) (n := n 2) (f := f 12) hx hb hK hP hD hS 12 0 rfl rfl (by omega) (by omega) dX2_append_42 (fun H locs hP hD hS => ?_)
  have hP : va_P (dC, dI) vwCl (wX cs a n (uf (uf (uf f 10 (upd (f 10) (x_pos n (n 9)) ra)) 11 (upd (f 11) (x_pos n (n 9)) rb)) 12 (upd (f 12) (x_pos n (n 9)) rg))) H := hP
  have hD : va_D A (wX cs a n (uf (uf (uf f 10 (upd (f 10) (x_pos n (n 9)) ra)) 11 (upd (f 11) (x_pos n (n 9)) rb)) 12 (upd (f 12) (x_pos n (n 9)) rg))) := hD
  refine lv_aload_n hx hb dX2_append_43 rfl (lv_at hl 1 rfl) ?_
  refine va_get (D := (dC, dI)) (ci := 3) (v := .ref (a 13)) (C := RX2) (T := TX2) (N := 10) hx hb hts hinX2 hown hK hP 2 rfl rfl 3 (by decide) (hts (.fieldLink RX2 21 "RenameRows$Ring" "known" "[I") (by decide +kernel)) (fun _ h9 => h9) rfl dX2_append_44 ?_
  refine lv_iload hx hb dX2_append_47 (lv_at hl 0 rfl) ?_
  refine lv_iload hx hb dX2_append_49 (lv_at hl 5 rfl) ?_
  refine ar_st (D := (dC, dI)) (n := n 2) (f := f 13) hx hb hK hP hD hS 13 0 rfl rfl (by omega) (by omega) dX2_append_51 (fun H locs hP hD hS => ?_)
  have hP : va_P (dC, dI) vwCl (wX cs a n (uf (uf (uf (uf f 10 (upd (f 10) (x_pos n (n 9)) ra)) 11 (upd (f 11) (x_pos n (n 9)) rb)) 12 (upd (f 12) (x_pos n (n 9)) rg)) 13 (upd (f 13) (x_pos n (n 9)) rk))) H := hP
  have hD : va_D A (wX cs a n (uf (uf (uf (uf f 10 (upd (f 10) (x_pos n (n 9)) ra)) 11 (upd (f 11) (x_pos n (n 9)) rb)) 12 (upd (f 12) (x_pos n (n 9)) rg)) 13 (upd (f 13) (x_pos n (n 9)) rk))) := hD
  refine lv_aload_n hx hb dX2_append_52 rfl (lv_at hl 1 rfl) ?_
  refine va_get (D := (dC, dI)) (ci := 3) (v := .ref (a 14)) (C := RX2) (T := TX2) (N := 10) hx hb hts hinX2 hown hK hP 2 rfl rfl 4 (by decide) (hts (.fieldLink RX2 24 "RenameRows$Ring" "register" "[I") (by decide +kernel)) (fun _ h9 => h9) rfl dX2_append_53 ?_
  refine lv_iload hx hb dX2_append_56 (lv_at hl 0 rfl) ?_
  refine lv_iload hx hb dX2_append_58 (lv_at hl 6 rfl) ?_
  refine ar_st (D := (dC, dI)) (n := n 2) (f := f 14) hx hb hK hP hD hS 14 0 rfl rfl (by omega) (by omega) dX2_append_60 (fun H locs hP hD hS => ?_)
  have hP : va_P (dC, dI) vwCl (wX cs a n (uf (uf (uf (uf (uf f 10 (upd (f 10) (x_pos n (n 9)) ra)) 11 (upd (f 11) (x_pos n (n 9)) rb)) 12 (upd (f 12) (x_pos n (n 9)) rg)) 13 (upd (f 13) (x_pos n (n 9)) rk)) 14 (upd (f 14) (x_pos n (n 9)) rt))) H := hP
  have hD : va_D A (wX cs a n (uf (uf (uf (uf (uf f 10 (upd (f 10) (x_pos n (n 9)) ra)) 11 (upd (f 11) (x_pos n (n 9)) rb)) 12 (upd (f 12) (x_pos n (n 9)) rg)) 13 (upd (f 13) (x_pos n (n 9)) rk)) 14 (upd (f 14) (x_pos n (n 9)) rt))) := hD
  refine lv_aload_n hx hb dX2_append_61 rfl (lv_at hl 1 rfl) ?_
  refine va_get (D := (dC, dI)) (ci := 3) (v := .ref (a 15)) (C := RX2) (T := TX2) (N := 10) hx hb hts hinX2 hown hK hP 2 rfl rfl 5 (by decide) (hts (.fieldLink RX2 27 "RenameRows$Ring" "port" "[I") (by decide +kernel)) (fun _ h9 => h9) rfl dX2_append_62 ?_
  refine lv_iload hx hb dX2_append_65 (lv_at hl 0 rfl) ?_
  refine lv_iconst (v := nI 0) hx hb dX2_append_67 (by decide) ?_
  refine ar_st (D := (dC, dI)) (n := n 2) (f := f 15) hx hb hK hP hD hS 15 0 rfl rfl (by omega) (by omega) dX2_append_68 (fun H locs hP hD hS => ?_)
  have hP : va_P (dC, dI) vwCl (wX cs a n (uf (uf (uf (uf (uf (uf f 10 (upd (f 10) (x_pos n (n 9)) ra)) 11 (upd (f 11) (x_pos n (n 9)) rb)) 12 (upd (f 12) (x_pos n (n 9)) rg)) 13 (upd (f 13) (x_pos n (n 9)) rk)) 14 (upd (f 14) (x_pos n (n 9)) rt)) 15 (upd (f 15) (x_pos n (n 9)) (nI 0)))) H := hP
  have hD : va_D A (wX cs a n (uf (uf (uf (uf (uf (uf f 10 (upd (f 10) (x_pos n (n 9)) ra)) 11 (upd (f 11) (x_pos n (n 9)) rb)) 12 (upd (f 12) (x_pos n (n 9)) rg)) 13 (upd (f 13) (x_pos n (n 9)) rk)) 14 (upd (f 14) (x_pos n (n 9)) rt)) 15 (upd (f 15) (x_pos n (n 9)) (nI 0)))) := hD
  refine lv_aload_n hx hb dX2_append_69 rfl (lv_at hl 1 rfl) ?_
  refine va_get (D := (dC, dI)) (ci := 3) (v := .ref (a 16)) (C := RX2) (T := TX2) (N := 10) hx hb hts hinX2 hown hK hP 2 rfl rfl 6 (by decide) (hts (.fieldLink RX2 30 "RenameRows$Ring" "state" "[I") (by decide +kernel)) (fun _ h9 => h9) rfl dX2_append_70 ?_
  refine lv_iload hx hb dX2_append_73 (lv_at hl 0 rfl) ?_
  refine lv_iload hx hb dX2_append_75 (lv_at hl 7 rfl) ?_
  refine ar_st (D := (dC, dI)) (n := n 2) (f := f 16) hx hb hK hP hD hS 16 0 rfl rfl (by omega) (by omega) dX2_append_77 (fun H locs hP hD hS => ?_)
  have hP : va_P (dC, dI) vwCl (wX cs a n (uf (uf (uf (uf (uf (uf (uf f 10 (upd (f 10) (x_pos n (n 9)) ra)) 11 (upd (f 11) (x_pos n (n 9)) rb)) 12 (upd (f 12) (x_pos n (n 9)) rg)) 13 (upd (f 13) (x_pos n (n 9)) rk)) 14 (upd (f 14) (x_pos n (n 9)) rt)) 15 (upd (f 15) (x_pos n (n 9)) (nI 0))) 16 (upd (f 16) (x_pos n (n 9)) rs))) H := hP
  have hD : va_D A (wX cs a n (uf (uf (uf (uf (uf (uf (uf f 10 (upd (f 10) (x_pos n (n 9)) ra)) 11 (upd (f 11) (x_pos n (n 9)) rb)) 12 (upd (f 12) (x_pos n (n 9)) rg)) 13 (upd (f 13) (x_pos n (n 9)) rk)) 14 (upd (f 14) (x_pos n (n 9)) rt)) 15 (upd (f 15) (x_pos n (n 9)) (nI 0))) 16 (upd (f 16) (x_pos n (n 9)) rs))) := hD
  refine lv_aload_n hx hb dX2_append_78 rfl (lv_at hl 1 rfl) ?_
  refine lv_dup hx hb dX2_append_79 rfl ?_
  refine va_get (D := (dC, dI)) (ci := 3) (v := .int (nI (n 9))) (C := RX2) (T := TX2) (N := 10) hx hb hts hinX2 hown hK hP 2 rfl rfl 8 (by decide) (hts (.fieldLink RX2 33 "RenameRows$Ring" "rows" "I") (by decide +kernel)) (fun _ h9 => h9) rfl dX2_append_80 ?_
  refine lv_iconst (v := nI 1) hx hb dX2_append_83 (by decide) ?_
  refine lv_iadd hx hb dX2_append_84 ?_
  refine tp_eq (nI_add (n 9) 1) ?_
  refine va_put (D := (dC, dI)) (ci := 3) (v := .int (nI ((n 9) + 1))) (ty := .int) (C := RX2) (T := TX2) (N := 10) hx hb hts hinX2 tyX2 tyX2_ok nmX2 hown hK hP hD hS 2 rfl rfl 8 (by decide) (hts (.fieldLink RX2 33 "RenameRows$Ring" "rows" "I") (by decide +kernel)) (fun _ h9 => h9) rfl (by decide +kernel) rfl rfl (Nat.le_of_ble_eq_true rfl) dX2_append_85 (fun H locs hP hD hS => ?_)
  have hP : va_P (dC, dI) vwCl (wX cs a (un n 9 ((n 9) + 1)) (uf (uf (uf (uf (uf (uf (uf f 10 (upd (f 10) (x_pos n (n 9)) ra)) 11 (upd (f 11) (x_pos n (n 9)) rb)) 12 (upd (f 12) (x_pos n (n 9)) rg)) 13 (upd (f 13) (x_pos n (n 9)) rk)) 14 (upd (f 14) (x_pos n (n 9)) rt)) 15 (upd (f 15) (x_pos n (n 9)) (nI 0))) 16 (upd (f 16) (x_pos n (n 9)) rs))) H := hP
  have hD : va_D A (wX cs a (un n 9 ((n 9) + 1)) (uf (uf (uf (uf (uf (uf (uf f 10 (upd (f 10) (x_pos n (n 9)) ra)) 11 (upd (f 11) (x_pos n (n 9)) rb)) 12 (upd (f 12) (x_pos n (n 9)) rg)) 13 (upd (f 13) (x_pos n (n 9)) rk)) 14 (upd (f 14) (x_pos n (n 9)) rt)) 15 (upd (f 15) (x_pos n (n 9)) (nI 0))) 16 (upd (f 16) (x_pos n (n 9)) rs))) := hD
  refine lv_iload hx hb dX2_append_88 (lv_at hl 0 rfl) ?_
  have hP : va_P (dC, dI) vwCl (wX cs a (un n 9 ((n 9) + 1)) (x_app n f ra rb rg rk rt rs)) H := by
    have e9 : (wX cs a (un n 9 ((n 9) + 1)) (uf (uf (uf (uf (uf (uf (uf f 10 (upd (f 10) (x_pos n (n 9)) ra)) 11 (upd (f 11) (x_pos n (n 9)) rb)) 12 (upd (f 12) (x_pos n (n 9)) rg)) 13 (upd (f 13) (x_pos n (n 9)) rk)) 14 (upd (f 14) (x_pos n (n 9)) rt)) 15 (upd (f 15) (x_pos n (n 9)) (nI 0))) 16 (upd (f 16) (x_pos n (n 9)) rs))) = (wX cs a (un n 9 ((n 9) + 1)) (x_app n f ra rb rg rk rt rs)) := by rfl
    rw [← e9]; exact hP
  exact wr_iret hx hb hr hlocks hP hS dX2_append_90

set_option maxHeartbeats 4000000 in
set_option maxRecDepth 100000 in
theorem c_X2_dropOldest (l : Launch) (dC : Nat → ClassId) (dI : Nat → Nat → Nat) (cs : ClassId × ClassId) (a n : Nat → Nat) (f : Nat → Nat → Int32) (sz : Nat) (hB : x_bd n) (h1 : 0 < n 9)  : Met l yX2_dropOldest wsX2_dropOldest ({ frames := 1, cells := 0, slots := 0, locals := 22 }) (wrPc (dC, dI) vwCl (wX cs a n f) (tyl cs) sz [.ref (a 2)]) (wrQ (dC, dI) vwCl (wX cs a (un (un (un n 8 (x_pos n 1)) 9 ((n 9) - 1)) 10 ((n 10) + 1)) f) none (va_A (wX cs a n f) sz)) 0 0 (va_A (wX cs a n f) sz) := by
  refine wr_of (cc := cX2_dropOldest) (maxL := 1) (ret := none) (own := RX2) (by decide) rfl rfl (Nat.le_of_ble_eq_true rfl) ?_
  intro p e s m below meth c A hsz hAe hx hb hr hml hts hown hlocks hP hK hD hA hS ls hl
  have hl : lv_has ls 1 [(0, .ref (a 2))] := hl
  have hinX2 : ∀ w ∈ wsX20, w ∈ wsX2_dropOldest := by decide +kernel
  obtain ⟨B1, B2, B3, B4, B5, B6, B7, B8, B9, B10, B11, B12, B13, B14, B15⟩ := id hB
  refine lv_aload_n hx hb dX2_dropOldest_0 rfl (lv_at hl 0 rfl) ?_
  refine va_get (D := (dC, dI)) (ci := 3) (v := .int (nI (n 9))) (C := RX2) (T := TX2) (N := 10) hx hb hts hinX2 hown hK hP 2 rfl rfl 8 (by decide) (hts (.fieldLink RX2 33 "RenameRows$Ring" "rows" "I") (by decide +kernel)) (fun _ h9 => h9) rfl dX2_dropOldest_1 ?_
  refine lv_if_le (tgt := 36) hx hb dX2_dropOldest_4 (by decide) (fun c_1 => absurd ((nI_leI (by omega) (by omega)).mp (show _ ≤ nI 0 from c_1)) (by omega)) (fun c_1 => ?_)
  have c_1 : ¬ (n 9) ≤ 0 := fun q => c_1 (show _ ≤ nI 0 from (nI_leI (by omega) (by omega)).mpr q)
  refine lv_aload_n hx hb dX2_dropOldest_7 rfl (lv_at hl 0 rfl) ?_
  refine lv_aload_n hx hb dX2_dropOldest_8 rfl (lv_at hl 0 rfl) ?_
  refine lv_iconst (v := nI 1) hx hb dX2_dropOldest_9 (by decide) ?_
  refine W.callR (W.runV (As := [.int (nI 1)]) (rest := [.ref (a 2)]) ⟨hx, hb, hml, hown, hts⟩ (c_X2_placeOfAge l dC dI cs a n f 1 hB (by omega)) (cwV 1 hts gX2_dropOldest_X2_placeOfAge rfl rfl rfl (by decide +kernel) ⟨Nat.le_of_ble_eq_true rfl, Nat.le_of_ble_eq_true rfl⟩) (rd_preV (q := (RX2, TX2, 10)) hP hK 2 rfl rfl) rfl rfl hl.1 rfl (lv_room (Nat.le_of_ble_eq_true rfl)) dX2_dropOldest_10 ⟨Nat.zero_le _, Nat.zero_le _⟩) ?_
  refine W.eq (g2 := F0 m 13 ls (.int (nI (x_pos n 1)) :: [.ref (a 2)])) rfl ?_
  have k_2 := x_pos_lt (n := n) (i := 1) (by omega) (by omega)
  refine va_put (D := (dC, dI)) (ci := 3) (v := .int (nI (x_pos n 1))) (ty := .int) (C := RX2) (T := TX2) (N := 10) hx hb hts hinX2 tyX2 tyX2_ok nmX2 hown hK hP hD hS 2 rfl rfl 7 (by decide) (hts (.fieldLink RX2 51 "RenameRows$Ring" "oldest" "I") (by decide +kernel)) (fun _ h9 => h9) rfl (by decide +kernel) rfl rfl (Nat.le_of_ble_eq_true rfl) dX2_dropOldest_13 (fun H locs hP hD hS => ?_)
  have hP : va_P (dC, dI) vwCl (wX cs a (un n 8 (x_pos n 1)) f) H := hP
  have hD : va_D A (wX cs a (un n 8 (x_pos n 1)) f) := hD
  refine lv_aload_n hx hb dX2_dropOldest_16 rfl (lv_at hl 0 rfl) ?_
  refine lv_dup hx hb dX2_dropOldest_17 rfl ?_
  refine va_get (D := (dC, dI)) (ci := 3) (v := .int (nI (n 9))) (C := RX2) (T := TX2) (N := 10) hx hb hts hinX2 hown hK hP 2 rfl rfl 8 (by decide) (hts (.fieldLink RX2 33 "RenameRows$Ring" "rows" "I") (by decide +kernel)) (fun _ h9 => h9) rfl dX2_dropOldest_18 ?_
  refine lv_iconst (v := nI 1) hx hb dX2_dropOldest_21 (by decide) ?_
  refine lv_isub hx hb dX2_dropOldest_22 ?_
  refine tp_eq (pk_sub (by omega)) ?_
  refine va_put (D := (dC, dI)) (ci := 3) (v := .int (nI ((n 9) - 1))) (ty := .int) (C := RX2) (T := TX2) (N := 10) hx hb hts hinX2 tyX2 tyX2_ok nmX2 hown hK hP hD hS 2 rfl rfl 8 (by decide) (hts (.fieldLink RX2 33 "RenameRows$Ring" "rows" "I") (by decide +kernel)) (fun _ h9 => h9) rfl (by decide +kernel) rfl rfl (Nat.le_of_ble_eq_true rfl) dX2_dropOldest_23 (fun H locs hP hD hS => ?_)
  have hP : va_P (dC, dI) vwCl (wX cs a (un (un n 8 (x_pos n 1)) 9 ((n 9) - 1)) f) H := hP
  have hD : va_D A (wX cs a (un (un n 8 (x_pos n 1)) 9 ((n 9) - 1)) f) := hD
  refine lv_aload_n hx hb dX2_dropOldest_26 rfl (lv_at hl 0 rfl) ?_
  refine lv_dup hx hb dX2_dropOldest_27 rfl ?_
  refine va_get (D := (dC, dI)) (ci := 3) (v := .int (nI (n 10))) (C := RX2) (T := TX2) (N := 10) hx hb hts hinX2 hown hK hP 2 rfl rfl 9 (by decide) (hts (.fieldLink RX2 37 "RenameRows$Ring" "done" "I") (by decide +kernel)) (fun _ h9 => h9) rfl dX2_dropOldest_28 ?_
  refine lv_iconst (v := nI 1) hx hb dX2_dropOldest_31 (by decide) ?_
  refine lv_iadd hx hb dX2_dropOldest_32 ?_
  refine tp_eq (nI_add (n 10) 1) ?_
  refine va_put (D := (dC, dI)) (ci := 3) (v := .int (nI ((n 10) + 1))) (ty := .int) (C := RX2) (T := TX2) (N := 10) hx hb hts hinX2 tyX2 tyX2_ok nmX2 hown hK hP hD hS 2 rfl rfl 9 (by decide) (hts (.fieldLink RX2 37 "RenameRows$Ring" "done" "I") (by decide +kernel)) (fun _ h9 => h9) rfl (by decide +kernel) rfl rfl (Nat.le_of_ble_eq_true rfl) dX2_dropOldest_33 (fun H locs hP hD hS => ?_)
  have hP : va_P (dC, dI) vwCl (wX cs a (un (un (un n 8 (x_pos n 1)) 9 ((n 9) - 1)) 10 ((n 10) + 1)) f) H := hP
  have hD : va_D A (wX cs a (un (un (un n 8 (x_pos n 1)) 9 ((n 9) - 1)) 10 ((n 10) + 1)) f) := hD
  exact wr_vret hx hb hr hlocks hP hS dX2_dropOldest_36

set_option maxHeartbeats 4000000 in
set_option maxRecDepth 100000 in
theorem c_X2_dropLast (l : Launch) (dC : Nat → ClassId) (dI : Nat → Nat → Nat) (cs : ClassId × ClassId) (a n : Nat → Nat) (f : Nat → Nat → Int32) (sz : Nat) (hB : x_bd n) (h1 : 0 < n 9)  : Met l yX2_dropLast wsX2_dropLast ({ frames := 0, cells := 0, slots := 0, locals := 0 }) (wrPc (dC, dI) vwCl (wX cs a n f) (tyl cs) sz [.ref (a 2)]) (wrQ (dC, dI) vwCl (wX cs a (un n 9 ((n 9) - 1)) f) none (va_A (wX cs a n f) sz)) 0 0 (va_A (wX cs a n f) sz) := by
  refine wr_of (cc := cX2_dropLast) (maxL := 1) (ret := none) (own := RX2) (by decide) rfl rfl (Nat.le_of_ble_eq_true rfl) ?_
  intro p e s m below meth c A hsz hAe hx hb hr hml hts hown hlocks hP hK hD hA hS ls hl
  have hl : lv_has ls 1 [(0, .ref (a 2))] := hl
  have hinX2 : ∀ w ∈ wsX20, w ∈ wsX2_dropLast := by decide +kernel
  obtain ⟨B1, B2, B3, B4, B5, B6, B7, B8, B9, B10, B11, B12, B13, B14, B15⟩ := id hB
  refine lv_aload_n hx hb dX2_dropLast_0 rfl (lv_at hl 0 rfl) ?_
  refine va_get (D := (dC, dI)) (ci := 3) (v := .int (nI (n 9))) (C := RX2) (T := TX2) (N := 10) hx hb hts hinX2 hown hK hP 2 rfl rfl 8 (by decide) (hts (.fieldLink RX2 33 "RenameRows$Ring" "rows" "I") (by decide +kernel)) (fun _ h9 => h9) rfl dX2_dropLast_1 ?_
  refine lv_if_le (tgt := 17) hx hb dX2_dropLast_4 (by decide) (fun c_1 => absurd ((nI_leI (by omega) (by omega)).mp (show _ ≤ nI 0 from c_1)) (by omega)) (fun c_1 => ?_)
  have c_1 : ¬ (n 9) ≤ 0 := fun q => c_1 (show _ ≤ nI 0 from (nI_leI (by omega) (by omega)).mpr q)
  refine lv_aload_n hx hb dX2_dropLast_7 rfl (lv_at hl 0 rfl) ?_
  refine lv_dup hx hb dX2_dropLast_8 rfl ?_
  refine va_get (D := (dC, dI)) (ci := 3) (v := .int (nI (n 9))) (C := RX2) (T := TX2) (N := 10) hx hb hts hinX2 hown hK hP 2 rfl rfl 8 (by decide) (hts (.fieldLink RX2 33 "RenameRows$Ring" "rows" "I") (by decide +kernel)) (fun _ h9 => h9) rfl dX2_dropLast_9 ?_
  refine lv_iconst (v := nI 1) hx hb dX2_dropLast_12 (by decide) ?_
  refine lv_isub hx hb dX2_dropLast_13 ?_
  refine tp_eq (pk_sub (by omega)) ?_
  refine va_put (D := (dC, dI)) (ci := 3) (v := .int (nI ((n 9) - 1))) (ty := .int) (C := RX2) (T := TX2) (N := 10) hx hb hts hinX2 tyX2 tyX2_ok nmX2 hown hK hP hD hS 2 rfl rfl 8 (by decide) (hts (.fieldLink RX2 33 "RenameRows$Ring" "rows" "I") (by decide +kernel)) (fun _ h9 => h9) rfl (by decide +kernel) rfl rfl (Nat.le_of_ble_eq_true rfl) dX2_dropLast_14 (fun H locs hP hD hS => ?_)
  have hP : va_P (dC, dI) vwCl (wX cs a (un n 9 ((n 9) - 1)) f) H := hP
  have hD : va_D A (wX cs a (un n 9 ((n 9) - 1)) f) := hD
  exact wr_vret hx hb hr hlocks hP hS dX2_dropLast_17

set_option maxHeartbeats 4000000 in
set_option maxRecDepth 100000 in
theorem c_X2_setPort (l : Launch) (dC : Nat → ClassId) (dI : Nat → Nat → Nat) (cs : ClassId × ClassId) (a n : Nat → Nat) (f : Nat → Nat → Int32) (sz : Nat) (j : Nat) (v : Int32) (hB : x_bd n) (h1 : j < n 2)  : Met l yX2_setPort wsX2_setPort ({ frames := 1, cells := 0, slots := 0, locals := 21 }) (wrPc (dC, dI) vwCl (wX cs a n f) (tyl cs) sz [.ref (a 2), .int (nI j), .int v]) (wrQ (dC, dI) vwCl (wX cs a n (uf f 15 (upd (f 15) j v))) none (va_A (wX cs a n f) sz)) 0 0 (va_A (wX cs a n f) sz) := by
  refine wr_of (cc := cX2_setPort) (maxL := 3) (ret := none) (own := RX2) (by decide) rfl rfl (Nat.le_of_ble_eq_true rfl) ?_
  intro p e s m below meth c A hsz hAe hx hb hr hml hts hown hlocks hP hK hD hA hS ls hl
  have hl : lv_has ls 3 [(0, .ref (a 2)), (1, .int (nI j)), (2, .int v)] := hl
  have hinX2 : ∀ w ∈ wsX20, w ∈ wsX2_setPort := by decide +kernel
  obtain ⟨B1, B2, B3, B4, B5, B6, B7, B8, B9, B10, B11, B12, B13, B14, B15⟩ := id hB
  refine lv_aload_n hx hb dX2_setPort_0 rfl (lv_at hl 0 rfl) ?_
  refine lv_iload_n hx hb dX2_setPort_1 rfl (lv_at hl 1 rfl) ?_
  refine W.callR (W.runV (As := [.int (nI j)]) (rest := []) ⟨hx, hb, hml, hown, hts⟩ (c_X2_isPlace l dC dI cs a n f (nI j) hB) (cwV 1 hts gX2_setPort_X2_isPlace rfl rfl rfl (by decide +kernel) ⟨Nat.le_of_ble_eq_true rfl, Nat.le_of_ble_eq_true rfl⟩) (rd_preV (q := (RX2, TX2, 10)) hP hK 2 rfl rfl) rfl rfl hl.1 rfl (lv_room (Nat.le_of_ble_eq_true rfl)) dX2_setPort_2 ⟨Nat.zero_le _, Nat.zero_le _⟩) ?_
  refine W.eq (g2 := F0 m 5 ls (.int (b2i (inB (nI j) (n 2))) :: [])) rfl ?_
  refine lv_if_eq (tgt := 15) hx hb dX2_setPort_5 (by decide) (fun c_1 => absurd (show j < n 2 by omega) (inB_nl (b2i_f c_1) (by omega) (by omega))) (fun c_1 => ?_)
  have c_1 : inB (nI j) (n 2) = true := b2i_t c_1
  refine lv_aload_n hx hb dX2_setPort_8 rfl (lv_at hl 0 rfl) ?_
  refine va_get (D := (dC, dI)) (ci := 3) (v := .ref (a 15)) (C := RX2) (T := TX2) (N := 10) hx hb hts hinX2 hown hK hP 2 rfl rfl 5 (by decide) (hts (.fieldLink RX2 27 "RenameRows$Ring" "port" "[I") (by decide +kernel)) (fun _ h9 => h9) rfl dX2_setPort_9 ?_
  refine lv_iload_n hx hb dX2_setPort_12 rfl (lv_at hl 1 rfl) ?_
  refine lv_iload_n hx hb dX2_setPort_13 rfl (lv_at hl 2 rfl) ?_
  refine ar_st (D := (dC, dI)) (n := n 2) (f := f 15) hx hb hK hP hD hS 15 0 rfl rfl (by omega) (by omega) dX2_setPort_14 (fun H locs hP hD hS => ?_)
  have hP : va_P (dC, dI) vwCl (wX cs a n (uf f 15 (upd (f 15) j v))) H := hP
  have hD : va_D A (wX cs a n (uf f 15 (upd (f 15) j v))) := hD
  exact wr_vret hx hb hr hlocks hP hS dX2_setPort_15

set_option maxHeartbeats 4000000 in
set_option maxRecDepth 100000 in
theorem c_X2_setState (l : Launch) (dC : Nat → ClassId) (dI : Nat → Nat → Nat) (cs : ClassId × ClassId) (a n : Nat → Nat) (f : Nat → Nat → Int32) (sz : Nat) (j : Nat) (v : Int32) (hB : x_bd n) (h1 : j < n 2)  : Met l yX2_setState wsX2_setState ({ frames := 1, cells := 0, slots := 0, locals := 21 }) (wrPc (dC, dI) vwCl (wX cs a n f) (tyl cs) sz [.ref (a 2), .int (nI j), .int v]) (wrQ (dC, dI) vwCl (wX cs a n (uf f 16 (upd (f 16) j v))) none (va_A (wX cs a n f) sz)) 0 0 (va_A (wX cs a n f) sz) := by
  refine wr_of (cc := cX2_setState) (maxL := 3) (ret := none) (own := RX2) (by decide) rfl rfl (Nat.le_of_ble_eq_true rfl) ?_
  intro p e s m below meth c A hsz hAe hx hb hr hml hts hown hlocks hP hK hD hA hS ls hl
  have hl : lv_has ls 3 [(0, .ref (a 2)), (1, .int (nI j)), (2, .int v)] := hl
  have hinX2 : ∀ w ∈ wsX20, w ∈ wsX2_setState := by decide +kernel
  obtain ⟨B1, B2, B3, B4, B5, B6, B7, B8, B9, B10, B11, B12, B13, B14, B15⟩ := id hB
  refine lv_aload_n hx hb dX2_setState_0 rfl (lv_at hl 0 rfl) ?_
  refine lv_iload_n hx hb dX2_setState_1 rfl (lv_at hl 1 rfl) ?_
  refine W.callR (W.runV (As := [.int (nI j)]) (rest := []) ⟨hx, hb, hml, hown, hts⟩ (c_X2_isPlace l dC dI cs a n f (nI j) hB) (cwV 1 hts gX2_setState_X2_isPlace rfl rfl rfl (by decide +kernel) ⟨Nat.le_of_ble_eq_true rfl, Nat.le_of_ble_eq_true rfl⟩) (rd_preV (q := (RX2, TX2, 10)) hP hK 2 rfl rfl) rfl rfl hl.1 rfl (lv_room (Nat.le_of_ble_eq_true rfl)) dX2_setState_2 ⟨Nat.zero_le _, Nat.zero_le _⟩) ?_
  refine W.eq (g2 := F0 m 5 ls (.int (b2i (inB (nI j) (n 2))) :: [])) rfl ?_
  refine lv_if_eq (tgt := 15) hx hb dX2_setState_5 (by decide) (fun c_1 => absurd (show j < n 2 by omega) (inB_nl (b2i_f c_1) (by omega) (by omega))) (fun c_1 => ?_)
  have c_1 : inB (nI j) (n 2) = true := b2i_t c_1
  refine lv_aload_n hx hb dX2_setState_8 rfl (lv_at hl 0 rfl) ?_
  refine va_get (D := (dC, dI)) (ci := 3) (v := .ref (a 16)) (C := RX2) (T := TX2) (N := 10) hx hb hts hinX2 hown hK hP 2 rfl rfl 6 (by decide) (hts (.fieldLink RX2 30 "RenameRows$Ring" "state" "[I") (by decide +kernel)) (fun _ h9 => h9) rfl dX2_setState_9 ?_
  refine lv_iload_n hx hb dX2_setState_12 rfl (lv_at hl 1 rfl) ?_
  refine lv_iload_n hx hb dX2_setState_13 rfl (lv_at hl 2 rfl) ?_
  refine ar_st (D := (dC, dI)) (n := n 2) (f := f 16) hx hb hK hP hD hS 16 0 rfl rfl (by omega) (by omega) dX2_setState_14 (fun H locs hP hD hS => ?_)
  have hP : va_P (dC, dI) vwCl (wX cs a n (uf f 16 (upd (f 16) j v))) H := hP
  have hD : va_D A (wX cs a n (uf f 16 (upd (f 16) j v))) := hD
  exact wr_vret hx hb hr hlocks hP hS dX2_setState_15

set_option maxHeartbeats 4000000 in
set_option maxRecDepth 100000 in
theorem c_X1_takeFirstFree (l : Launch) (dC : Nat → ClassId) (dI : Nat → Nat → Nat) (cs : ClassId × ClassId) (a n : Nat → Nat) (f : Nat → Nat → Int32) (sz : Nat) (q : Nat) (hq : f 9 (n 6) = nI q) (hB : x_bd n) (h1 : 0 < n 7) (h2 : q < n 1)  : Met l yX1_takeFirstFree wsX1_takeFirstFree ({ frames := 1, cells := 0, slots := 0, locals := 22 }) (wrPc (dC, dI) vwCl (wX cs a n f) (tyl cs) sz [.ref (a 1)]) (wrQ (dC, dI) vwCl (wX cs a (un (un n 6 (x_slot n 1)) 7 ((n 7) - 1)) (uf (uf f 7 (upd (f 7) q (nI 1))) 8 (upd (f 8) q (nI 0)))) (some (.int (nI q))) (va_A (wX cs a n f) sz)) 0 0 (va_A (wX cs a n f) sz) := by
  refine wr_of (cc := cX1_takeFirstFree) (maxL := 2) (ret := (some .int)) (own := RX1) (by decide) rfl rfl (Nat.le_of_ble_eq_true rfl) ?_
  intro p e s m below meth c A hsz hAe hx hb hr hml hts hown hlocks hP hK hD hA hS ls hl
  have hl : lv_has ls 2 [(0, .ref (a 1))] := hl
  have hinX1 : ∀ w ∈ wsX10, w ∈ wsX1_takeFirstFree := by decide +kernel
  obtain ⟨B1, B2, B3, B4, B5, B6, B7, B8, B9, B10, B11, B12, B13, B14, B15⟩ := id hB
  refine lv_aload_n hx hb dX1_takeFirstFree_0 rfl (lv_at hl 0 rfl) ?_
  refine va_get (D := (dC, dI)) (ci := 2) (v := .int (nI (n 7))) (C := RX1) (T := TX1) (N := 5) hx hb hts hinX1 hown hK hP 1 rfl rfl 4 (by decide) (hts (.fieldLink RX1 22 "RenameRows$Names" "free" "I") (by decide +kernel)) (fun _ h9 => h9) rfl dX1_takeFirstFree_1 ?_
  refine lv_if_ne (tgt := 9) hx hb dX1_takeFirstFree_4 (by decide) (fun c_1 => ?_) (fun c_1 => absurd ((nI_z (by omega)).mp c_1) (by omega))
  have c_1 : ¬ (n 7) = 0 := fun q => c_1 ((nI_z (by omega)).mpr q)
  refine lv_aload_n hx hb dX1_takeFirstFree_9 rfl (lv_at hl 0 rfl) ?_
  refine va_get (D := (dC, dI)) (ci := 2) (v := .ref (a 9)) (C := RX1) (T := TX1) (N := 5) hx hb hts hinX1 hown hK hP 1 rfl rfl 2 (by decide) (hts (.fieldLink RX1 19 "RenameRows$Names" "queued" "[I") (by decide +kernel)) (fun _ h9 => h9) rfl dX1_takeFirstFree_10 ?_
  refine lv_aload_n hx hb dX1_takeFirstFree_13 rfl (lv_at hl 0 rfl) ?_
  refine va_get (D := (dC, dI)) (ci := 2) (v := .int (nI (n 6))) (C := RX1) (T := TX1) (N := 5) hx hb hts hinX1 hown hK hP 1 rfl rfl 3 (by decide) (hts (.fieldLink RX1 34 "RenameRows$Names" "first" "I") (by decide +kernel)) (fun _ h9 => h9) rfl dX1_takeFirstFree_14 ?_
  refine ar_ld (D := (dC, dI)) (n := n 1) (f := f 9) hx hb hK hP 9 0 rfl rfl (by omega) (by omega) dX1_takeFirstFree_17 ?_
  refine tp_eq hq ?_
  refine lv_istore_n (lv' := [(1, .int (nI q)), (0, .ref (a 1))]) hx hb dX1_takeFirstFree_18 rfl hl (by decide) rfl (fun ls hl => ?_)
  refine lv_aload_n hx hb dX1_takeFirstFree_19 rfl (lv_at hl 1 rfl) ?_
  refine lv_aload_n hx hb dX1_takeFirstFree_20 rfl (lv_at hl 1 rfl) ?_
  refine lv_iconst (v := nI 1) hx hb dX1_takeFirstFree_21 (by decide) ?_
  refine W.callR (W.runV (As := [.int (nI 1)]) (rest := [.ref (a 1)]) ⟨hx, hb, hml, hown, hts⟩ (c_X1_slotOf l dC dI cs a n f 1 hB (by omega)) (cwV 1 hts gX1_takeFirstFree_X1_slotOf rfl rfl rfl (by decide +kernel) ⟨Nat.le_of_ble_eq_true rfl, Nat.le_of_ble_eq_true rfl⟩) (rd_preV (q := (RX1, TX1, 5)) hP hK 1 rfl rfl) rfl rfl hl.1 rfl (lv_room (Nat.le_of_ble_eq_true rfl)) dX1_takeFirstFree_22 ⟨Nat.zero_le _, Nat.zero_le _⟩) ?_
  refine W.eq (g2 := F0 m 25 ls (.int (nI (x_slot n 1)) :: [.ref (a 1)])) rfl ?_
  have k_2 := x_slot_lt (n := n) (k := 1) (by omega) (by omega)
  refine va_put (D := (dC, dI)) (ci := 2) (v := .int (nI (x_slot n 1))) (ty := .int) (C := RX1) (T := TX1) (N := 5) hx hb hts hinX1 tyX1 tyX1_ok nmX1 hown hK hP hD hS 1 rfl rfl 3 (by decide) (hts (.fieldLink RX1 34 "RenameRows$Names" "first" "I") (by decide +kernel)) (fun _ h9 => h9) rfl (by decide +kernel) rfl rfl (Nat.le_of_ble_eq_true rfl) dX1_takeFirstFree_25 (fun H locs hP hD hS => ?_)
  have hP : va_P (dC, dI) vwCl (wX cs a (un n 6 (x_slot n 1)) f) H := hP
  have hD : va_D A (wX cs a (un n 6 (x_slot n 1)) f) := hD
  refine lv_aload_n hx hb dX1_takeFirstFree_28 rfl (lv_at hl 1 rfl) ?_
  refine lv_dup hx hb dX1_takeFirstFree_29 rfl ?_
  refine va_get (D := (dC, dI)) (ci := 2) (v := .int (nI (n 7))) (C := RX1) (T := TX1) (N := 5) hx hb hts hinX1 hown hK hP 1 rfl rfl 4 (by decide) (hts (.fieldLink RX1 22 "RenameRows$Names" "free" "I") (by decide +kernel)) (fun _ h9 => h9) rfl dX1_takeFirstFree_30 ?_
  refine lv_iconst (v := nI 1) hx hb dX1_takeFirstFree_33 (by decide) ?_
  refine lv_isub hx hb dX1_takeFirstFree_34 ?_
  refine tp_eq (pk_sub (by omega)) ?_
  refine va_put (D := (dC, dI)) (ci := 2) (v := .int (nI ((n 7) - 1))) (ty := .int) (C := RX1) (T := TX1) (N := 5) hx hb hts hinX1 tyX1 tyX1_ok nmX1 hown hK hP hD hS 1 rfl rfl 4 (by decide) (hts (.fieldLink RX1 22 "RenameRows$Names" "free" "I") (by decide +kernel)) (fun _ h9 => h9) rfl (by decide +kernel) rfl rfl (Nat.le_of_ble_eq_true rfl) dX1_takeFirstFree_35 (fun H locs hP hD hS => ?_)
  have hP : va_P (dC, dI) vwCl (wX cs a (un (un n 6 (x_slot n 1)) 7 ((n 7) - 1)) f) H := hP
  have hD : va_D A (wX cs a (un (un n 6 (x_slot n 1)) 7 ((n 7) - 1)) f) := hD
  refine lv_aload_n hx hb dX1_takeFirstFree_38 rfl (lv_at hl 1 rfl) ?_
  refine va_get (D := (dC, dI)) (ci := 2) (v := .ref (a 7)) (C := RX1) (T := TX1) (N := 5) hx hb hts hinX1 hown hK hP 1 rfl rfl 0 (by decide) (hts (.fieldLink RX1 9 "RenameRows$Names" "held" "[I") (by decide +kernel)) (fun _ h9 => h9) rfl dX1_takeFirstFree_39 ?_
  refine lv_iload_n hx hb dX1_takeFirstFree_42 rfl (lv_at hl 0 rfl) ?_
  refine lv_iconst (v := nI 1) hx hb dX1_takeFirstFree_43 (by decide) ?_
  refine ar_st (D := (dC, dI)) (n := n 1) (f := f 7) hx hb hK hP hD hS 7 0 rfl rfl (by omega) (by omega) dX1_takeFirstFree_44 (fun H locs hP hD hS => ?_)
  have hP : va_P (dC, dI) vwCl (wX cs a (un (un n 6 (x_slot n 1)) 7 ((n 7) - 1)) (uf f 7 (upd (f 7) q (nI 1)))) H := hP
  have hD : va_D A (wX cs a (un (un n 6 (x_slot n 1)) 7 ((n 7) - 1)) (uf f 7 (upd (f 7) q (nI 1)))) := hD
  refine lv_aload_n hx hb dX1_takeFirstFree_45 rfl (lv_at hl 1 rfl) ?_
  refine va_get (D := (dC, dI)) (ci := 2) (v := .ref (a 8)) (C := RX1) (T := TX1) (N := 5) hx hb hts hinX1 hown hK hP 1 rfl rfl 1 (by decide) (hts (.fieldLink RX1 15 "RenameRows$Names" "ready" "[Z") (by decide +kernel)) (fun _ h9 => h9) rfl dX1_takeFirstFree_46 ?_
  refine lv_iload_n hx hb dX1_takeFirstFree_49 rfl (lv_at hl 0 rfl) ?_
  refine lv_iconst (v := nI 0) hx hb dX1_takeFirstFree_50 (by decide) ?_
  refine ar_zst (D := (dC, dI)) (n := n 1) (f := f 8) hx hb hK hP hD hS 8 1 rfl rfl (y := nI 0) (by decide) (by omega) (by omega) dX1_takeFirstFree_51 (fun H locs hP hD hS => ?_)
  have hP : va_P (dC, dI) vwCl (wX cs a (un (un n 6 (x_slot n 1)) 7 ((n 7) - 1)) (uf (uf f 7 (upd (f 7) q (nI 1))) 8 (upd (f 8) q (nI 0)))) H := hP
  have hD : va_D A (wX cs a (un (un n 6 (x_slot n 1)) 7 ((n 7) - 1)) (uf (uf f 7 (upd (f 7) q (nI 1))) 8 (upd (f 8) q (nI 0)))) := hD
  refine lv_iload_n hx hb dX1_takeFirstFree_52 rfl (lv_at hl 0 rfl) ?_
  exact wr_iret hx hb hr hlocks hP hS dX1_takeFirstFree_53

set_option maxHeartbeats 4000000 in
set_option maxRecDepth 100000 in
theorem c_X1_addShare (l : Launch) (dC : Nat → ClassId) (dI : Nat → Nat → Nat) (cs : ClassId × ClassId) (a n : Nat → Nat) (f : Nat → Nat → Int32) (sz : Nat) (q : Nat) (hB : x_bd n) (h1 : q < n 1)  : Met l yX1_addShare wsX1_addShare ({ frames := 1, cells := 0, slots := 0, locals := 21 }) (wrPc (dC, dI) vwCl (wX cs a n f) (tyl cs) sz [.ref (a 1), .int (nI q)]) (wrQ (dC, dI) vwCl (wX cs a n (uf f 7 (upd (f 7) q (((f 7 q) + nI 1))))) none (va_A (wX cs a n f) sz)) 0 0 (va_A (wX cs a n f) sz) := by
  refine wr_of (cc := cX1_addShare) (maxL := 2) (ret := none) (own := RX1) (by decide) rfl rfl (Nat.le_of_ble_eq_true rfl) ?_
  intro p e s m below meth c A hsz hAe hx hb hr hml hts hown hlocks hP hK hD hA hS ls hl
  have hl : lv_has ls 2 [(0, .ref (a 1)), (1, .int (nI q))] := hl
  have hinX1 : ∀ w ∈ wsX10, w ∈ wsX1_addShare := by decide +kernel
  obtain ⟨B1, B2, B3, B4, B5, B6, B7, B8, B9, B10, B11, B12, B13, B14, B15⟩ := id hB
  refine lv_aload_n hx hb dX1_addShare_0 rfl (lv_at hl 0 rfl) ?_
  refine lv_iload_n hx hb dX1_addShare_1 rfl (lv_at hl 1 rfl) ?_
  refine W.callR (W.runV (As := [.int (nI q)]) (rest := []) ⟨hx, hb, hml, hown, hts⟩ (c_X1_isName l dC dI cs a n f (nI q) hB) (cwV 1 hts gX1_addShare_X1_isName rfl rfl rfl (by decide +kernel) ⟨Nat.le_of_ble_eq_true rfl, Nat.le_of_ble_eq_true rfl⟩) (rd_preV (q := (RX1, TX1, 5)) hP hK 1 rfl rfl) rfl rfl hl.1 rfl (lv_room (Nat.le_of_ble_eq_true rfl)) dX1_addShare_2 ⟨Nat.zero_le _, Nat.zero_le _⟩) ?_
  refine W.eq (g2 := F0 m 5 ls (.int (b2i (inB (nI q) (n 1))) :: [])) rfl ?_
  refine lv_if_eq (tgt := 18) hx hb dX1_addShare_5 (by decide) (fun c_1 => absurd (show q < n 1 by omega) (inB_nl (b2i_f c_1) (by omega) (by omega))) (fun c_1 => ?_)
  have c_1 : inB (nI q) (n 1) = true := b2i_t c_1
  refine lv_aload_n hx hb dX1_addShare_8 rfl (lv_at hl 0 rfl) ?_
  refine va_get (D := (dC, dI)) (ci := 2) (v := .ref (a 7)) (C := RX1) (T := TX1) (N := 5) hx hb hts hinX1 hown hK hP 1 rfl rfl 0 (by decide) (hts (.fieldLink RX1 9 "RenameRows$Names" "held" "[I") (by decide +kernel)) (fun _ h9 => h9) rfl dX1_addShare_9 ?_
  refine lv_iload_n hx hb dX1_addShare_12 rfl (lv_at hl 1 rfl) ?_
  refine lv_dup2_11 hx hb dX1_addShare_13 rfl rfl ?_
  refine ar_ld (D := (dC, dI)) (n := n 1) (f := f 7) hx hb hK hP 7 0 rfl rfl (by omega) (by omega) dX1_addShare_14 ?_
  refine lv_iconst (v := nI 1) hx hb dX1_addShare_15 (by decide) ?_
  refine lv_iadd hx hb dX1_addShare_16 ?_
  refine ar_st (D := (dC, dI)) (n := n 1) (f := f 7) hx hb hK hP hD hS 7 0 rfl rfl (by omega) (by omega) dX1_addShare_17 (fun H locs hP hD hS => ?_)
  have hP : va_P (dC, dI) vwCl (wX cs a n (uf f 7 (upd (f 7) q ((f 7 q) + nI 1)))) H := hP
  have hD : va_D A (wX cs a n (uf f 7 (upd (f 7) q ((f 7 q) + nI 1)))) := hD
  have hP : va_P (dC, dI) vwCl (wX cs a n (uf f 7 (upd (f 7) q (((f 7 q) + nI 1))))) H := by
    have e9 : (wX cs a n (uf f 7 (upd (f 7) q ((f 7 q) + nI 1)))) = (wX cs a n (uf f 7 (upd (f 7) q (((f 7 q) + nI 1))))) := by first | (simp [c_1]; done) | (simp [nI_0, c_1]; done) | (simp [c_1]; omega)
    rw [← e9]; exact hP
  exact wr_vret hx hb hr hlocks hP hS dX1_addShare_18

set_option maxHeartbeats 4000000 in
set_option maxRecDepth 100000 in
theorem c_X1_giveBack (l : Launch) (dC : Nat → ClassId) (dI : Nat → Nat → Nat) (cs : ClassId × ClassId) (a n : Nat → Nat) (f : Nat → Nat → Int32) (sz : Nat) (q : Nat) (hB : x_bd n) (h1 : q < n 1) (h2 : ¬ f 7 q = 0) (h3 : n 7 < n 1)  : Met l yX1_giveBack wsX1_giveBack ({ frames := 1, cells := 0, slots := 0, locals := 22 }) (wrPc (dC, dI) vwCl (wX cs a n f) (tyl cs) sz [.ref (a 1), .int (nI q)]) (wrQ (dC, dI) vwCl (wX cs a (x_gN n f q) (x_gF n f q)) none (va_A (wX cs a n f) sz)) 0 0 (va_A (wX cs a n f) sz) := by
  refine wr_of (cc := cX1_giveBack) (maxL := 2) (ret := none) (own := RX1) (by decide) rfl rfl (Nat.le_of_ble_eq_true rfl) ?_
  intro p e s m below meth c A hsz hAe hx hb hr hml hts hown hlocks hP hK hD hA hS ls hl
  have hl : lv_has ls 2 [(0, .ref (a 1)), (1, .int (nI q))] := hl
  have hinX1 : ∀ w ∈ wsX10, w ∈ wsX1_giveBack := by decide +kernel
  obtain ⟨B1, B2, B3, B4, B5, B6, B7, B8, B9, B10, B11, B12, B13, B14, B15⟩ := id hB
  refine lv_aload_n hx hb dX1_giveBack_0 rfl (lv_at hl 0 rfl) ?_
  refine lv_iload_n hx hb dX1_giveBack_1 rfl (lv_at hl 1 rfl) ?_
  refine W.callR (W.runV (As := [.int (nI q)]) (rest := []) ⟨hx, hb, hml, hown, hts⟩ (c_X1_isName l dC dI cs a n f (nI q) hB) (cwV 1 hts gX1_giveBack_X1_isName rfl rfl rfl (by decide +kernel) ⟨Nat.le_of_ble_eq_true rfl, Nat.le_of_ble_eq_true rfl⟩) (rd_preV (q := (RX1, TX1, 5)) hP hK 1 rfl rfl) rfl rfl hl.1 rfl (lv_room (Nat.le_of_ble_eq_true rfl)) dX1_giveBack_2 ⟨Nat.zero_le _, Nat.zero_le _⟩) ?_
  refine W.eq (g2 := F0 m 5 ls (.int (b2i (inB (nI q) (n 1))) :: [])) rfl ?_
  refine lv_if_eq (tgt := 17) hx hb dX1_giveBack_5 (by decide) (fun c_1 => absurd (show q < n 1 by omega) (inB_nl (b2i_f c_1) (by omega) (by omega))) (fun c_1 => ?_)
  have c_1 : inB (nI q) (n 1) = true := b2i_t c_1
  refine lv_aload_n hx hb dX1_giveBack_8 rfl (lv_at hl 0 rfl) ?_
  refine va_get (D := (dC, dI)) (ci := 2) (v := .ref (a 7)) (C := RX1) (T := TX1) (N := 5) hx hb hts hinX1 hown hK hP 1 rfl rfl 0 (by decide) (hts (.fieldLink RX1 9 "RenameRows$Names" "held" "[I") (by decide +kernel)) (fun _ h9 => h9) rfl dX1_giveBack_9 ?_
  refine lv_iload_n hx hb dX1_giveBack_12 rfl (lv_at hl 1 rfl) ?_
  refine ar_ld (D := (dC, dI)) (n := n 1) (f := f 7) hx hb hK hP 7 0 rfl rfl (by omega) (by omega) dX1_giveBack_13 ?_
  refine lv_if_ne (tgt := 18) hx hb dX1_giveBack_14 (by decide) (fun c_2 => ?_) (fun c_2 => absurd c_2 h2)
  refine lv_aload_n hx hb dX1_giveBack_18 rfl (lv_at hl 0 rfl) ?_
  refine va_get (D := (dC, dI)) (ci := 2) (v := .ref (a 7)) (C := RX1) (T := TX1) (N := 5) hx hb hts hinX1 hown hK hP 1 rfl rfl 0 (by decide) (hts (.fieldLink RX1 9 "RenameRows$Names" "held" "[I") (by decide +kernel)) (fun _ h9 => h9) rfl dX1_giveBack_19 ?_
  refine lv_iload_n hx hb dX1_giveBack_22 rfl (lv_at hl 1 rfl) ?_
  refine lv_dup2_11 hx hb dX1_giveBack_23 rfl rfl ?_
  refine ar_ld (D := (dC, dI)) (n := n 1) (f := f 7) hx hb hK hP 7 0 rfl rfl (by omega) (by omega) dX1_giveBack_24 ?_
  refine lv_iconst (v := nI 1) hx hb dX1_giveBack_25 (by decide) ?_
  refine lv_isub hx hb dX1_giveBack_26 ?_
  refine ar_st (D := (dC, dI)) (n := n 1) (f := f 7) hx hb hK hP hD hS 7 0 rfl rfl (by omega) (by omega) dX1_giveBack_27 (fun H locs hP hD hS => ?_)
  have hP : va_P (dC, dI) vwCl (wX cs a n (uf f 7 (upd (f 7) q ((f 7 q) - nI 1)))) H := hP
  have hD : va_D A (wX cs a n (uf f 7 (upd (f 7) q ((f 7 q) - nI 1)))) := hD
  refine lv_aload_n hx hb dX1_giveBack_28 rfl (lv_at hl 0 rfl) ?_
  refine va_get (D := (dC, dI)) (ci := 2) (v := .ref (a 7)) (C := RX1) (T := TX1) (N := 5) hx hb hts hinX1 hown hK hP 1 rfl rfl 0 (by decide) (hts (.fieldLink RX1 9 "RenameRows$Names" "held" "[I") (by decide +kernel)) (fun _ h9 => h9) rfl dX1_giveBack_29 ?_
  refine lv_iload_n hx hb dX1_giveBack_32 rfl (lv_at hl 1 rfl) ?_
  refine ar_ld (D := (dC, dI)) (n := n 1) (f := (upd (f 7) q ((f 7 q) - nI 1))) hx hb hK hP 7 0 rfl rfl (by omega) (by omega) dX1_giveBack_33 ?_
  refine lv_if_ne (tgt := 61) hx hb dX1_giveBack_34 (by decide) (fun c_3 => ?_) (fun c_3 => ?_)
  · rw [pk_us] at c_3
    have hP : va_P (dC, dI) vwCl (wX cs a (x_gN n f q) (x_gF n f q)) H := by
      have e9 : (wX cs a n (uf f 7 (upd (f 7) q ((f 7 q) - nI 1)))) = (wX cs a (x_gN n f q) (x_gF n f q)) := by simp [x_gN, x_gF, c_3]
      rw [← e9]; exact hP
    exact wr_vret hx hb hr hlocks hP hS dX1_giveBack_61
  · rw [pk_us] at c_3
    refine lv_aload_n hx hb dX1_giveBack_37 rfl (lv_at hl 0 rfl) ?_
    refine va_get (D := (dC, dI)) (ci := 2) (v := .ref (a 9)) (C := RX1) (T := TX1) (N := 5) hx hb hts hinX1 hown hK hP 1 rfl rfl 2 (by decide) (hts (.fieldLink RX1 19 "RenameRows$Names" "queued" "[I") (by decide +kernel)) (fun _ h9 => h9) rfl dX1_giveBack_38 ?_
    refine lv_aload_n hx hb dX1_giveBack_41 rfl (lv_at hl 0 rfl) ?_
    refine lv_aload_n hx hb dX1_giveBack_42 rfl (lv_at hl 0 rfl) ?_
    refine va_get (D := (dC, dI)) (ci := 2) (v := .int (nI (n 7))) (C := RX1) (T := TX1) (N := 5) hx hb hts hinX1 hown hK hP 1 rfl rfl 4 (by decide) (hts (.fieldLink RX1 22 "RenameRows$Names" "free" "I") (by decide +kernel)) (fun _ h9 => h9) rfl dX1_giveBack_43 ?_
    refine W.callR (W.runV (As := [.int (nI (n 7))]) (rest := [.ref (a 9)]) ⟨hx, hb, hml, hown, hts⟩ (c_X1_slotOf l dC dI cs a n (uf f 7 (upd (f 7) q ((f 7 q) - nI 1))) (n 7) hB (by omega)) (cwV 1 hts gX1_giveBack_X1_slotOf rfl rfl rfl (by decide +kernel) ⟨Nat.le_of_ble_eq_true rfl, Nat.le_of_ble_eq_true rfl⟩) (rd_preV (q := (RX1, TX1, 5)) hP hK 1 rfl rfl) rfl rfl hl.1 rfl (lv_room (Nat.le_of_ble_eq_true rfl)) dX1_giveBack_46 ⟨Nat.zero_le _, Nat.zero_le _⟩) ?_
    refine W.eq (g2 := F0 m 49 ls (.int (nI (x_slot n (n 7))) :: [.ref (a 9)])) rfl ?_
    have k_4 := x_slot_lt (n := n) (k := (n 7)) (by omega) (by omega)
    refine lv_iload_n hx hb dX1_giveBack_49 rfl (lv_at hl 1 rfl) ?_
    refine ar_st (D := (dC, dI)) (n := n 1) (f := f 9) hx hb hK hP hD hS 9 0 rfl rfl (by omega) (by omega) dX1_giveBack_50 (fun H locs hP hD hS => ?_)
    have hP : va_P (dC, dI) vwCl (wX cs a n (uf (uf f 7 (upd (f 7) q ((f 7 q) - nI 1))) 9 (upd (f 9) (x_slot n (n 7)) (nI q)))) H := hP
    have hD : va_D A (wX cs a n (uf (uf f 7 (upd (f 7) q ((f 7 q) - nI 1))) 9 (upd (f 9) (x_slot n (n 7)) (nI q)))) := hD
    refine lv_aload_n hx hb dX1_giveBack_51 rfl (lv_at hl 0 rfl) ?_
    refine lv_dup hx hb dX1_giveBack_52 rfl ?_
    refine va_get (D := (dC, dI)) (ci := 2) (v := .int (nI (n 7))) (C := RX1) (T := TX1) (N := 5) hx hb hts hinX1 hown hK hP 1 rfl rfl 4 (by decide) (hts (.fieldLink RX1 22 "RenameRows$Names" "free" "I") (by decide +kernel)) (fun _ h9 => h9) rfl dX1_giveBack_53 ?_
    refine lv_iconst (v := nI 1) hx hb dX1_giveBack_56 (by decide) ?_
    refine lv_iadd hx hb dX1_giveBack_57 ?_
    refine tp_eq (nI_add (n 7) 1) ?_
    refine va_put (D := (dC, dI)) (ci := 2) (v := .int (nI ((n 7) + 1))) (ty := .int) (C := RX1) (T := TX1) (N := 5) hx hb hts hinX1 tyX1 tyX1_ok nmX1 hown hK hP hD hS 1 rfl rfl 4 (by decide) (hts (.fieldLink RX1 22 "RenameRows$Names" "free" "I") (by decide +kernel)) (fun _ h9 => h9) rfl (by decide +kernel) rfl rfl (Nat.le_of_ble_eq_true rfl) dX1_giveBack_58 (fun H locs hP hD hS => ?_)
    have hP : va_P (dC, dI) vwCl (wX cs a (un n 7 ((n 7) + 1)) (uf (uf f 7 (upd (f 7) q ((f 7 q) - nI 1))) 9 (upd (f 9) (x_slot n (n 7)) (nI q)))) H := hP
    have hD : va_D A (wX cs a (un n 7 ((n 7) + 1)) (uf (uf f 7 (upd (f 7) q ((f 7 q) - nI 1))) 9 (upd (f 9) (x_slot n (n 7)) (nI q)))) := hD
    have hP : va_P (dC, dI) vwCl (wX cs a (x_gN n f q) (x_gF n f q)) H := by
      have e9 : (wX cs a (un n 7 ((n 7) + 1)) (uf (uf f 7 (upd (f 7) q ((f 7 q) - nI 1))) 9 (upd (f 9) (x_slot n (n 7)) (nI q)))) = (wX cs a (x_gN n f q) (x_gF n f q)) := by simp [x_gN, x_gF, c_3]
      rw [← e9]; exact hP
    exact wr_vret hx hb hr hlocks hP hS dX1_giveBack_61

set_option maxHeartbeats 4000000 in
set_option maxRecDepth 100000 in
theorem c_X1_makeReady (l : Launch) (dC : Nat → ClassId) (dI : Nat → Nat → Nat) (cs : ClassId × ClassId) (a n : Nat → Nat) (f : Nat → Nat → Int32) (sz : Nat) (x : Int32) (hB : x_bd n)  : Met l yX1_makeReady wsX1_makeReady ({ frames := 1, cells := 0, slots := 0, locals := 21 }) (wrPc (dC, dI) vwCl (wX cs a n f) (tyl cs) sz [.ref (a 1), .int x]) (wrQ (dC, dI) vwCl (wX cs a n (x_mrF n f x)) none (va_A (wX cs a n f) sz)) 0 0 (va_A (wX cs a n f) sz) := by
  refine wr_of (cc := cX1_makeReady) (maxL := 2) (ret := none) (own := RX1) (by decide) rfl rfl (Nat.le_of_ble_eq_true rfl) ?_
  intro p e s m below meth c A hsz hAe hx hb hr hml hts hown hlocks hP hK hD hA hS ls hl
  have hl : lv_has ls 2 [(0, .ref (a 1)), (1, .int x)] := hl
  have hinX1 : ∀ w ∈ wsX10, w ∈ wsX1_makeReady := by decide +kernel
  obtain ⟨B1, B2, B3, B4, B5, B6, B7, B8, B9, B10, B11, B12, B13, B14, B15⟩ := id hB
  refine lv_aload_n hx hb dX1_makeReady_0 rfl (lv_at hl 0 rfl) ?_
  refine lv_iload_n hx hb dX1_makeReady_1 rfl (lv_at hl 1 rfl) ?_
  refine W.callR (W.runV (As := [.int x]) (rest := []) ⟨hx, hb, hml, hown, hts⟩ (c_X1_isName l dC dI cs a n f x hB) (cwV 1 hts gX1_makeReady_X1_isName rfl rfl rfl (by decide +kernel) ⟨Nat.le_of_ble_eq_true rfl, Nat.le_of_ble_eq_true rfl⟩) (rd_preV (q := (RX1, TX1, 5)) hP hK 1 rfl rfl) rfl rfl hl.1 rfl (lv_room (Nat.le_of_ble_eq_true rfl)) dX1_makeReady_2 ⟨Nat.zero_le _, Nat.zero_le _⟩) ?_
  refine W.eq (g2 := F0 m 5 ls (.int (b2i (inB x (n 1))) :: [])) rfl ?_
  refine lv_if_eq (tgt := 15) hx hb dX1_makeReady_5 (by decide) (fun c_1 => ?_) (fun c_1 => ?_)
  · have c_1 : inB x (n 1) = false := b2i_f c_1
    have hP : va_P (dC, dI) vwCl (wX cs a n (x_mrF n f x)) s.heap := by
      have e9 : (wX cs a n f) = (wX cs a n (x_mrF n f x)) := by first | (simp [x_mrF, c_1]; done) | (simp [nI_0, x_mrF, c_1]; done) | (simp [x_mrF, c_1]; omega)
      rw [← e9]; exact hP
    exact wr_vret hx hb hr hlocks hP hS dX1_makeReady_15
  · have c_1 : inB x (n 1) = true := b2i_t c_1
    obtain ⟨jx, hjx, rfl⟩ := inB_t c_1 (by omega)
    refine lv_aload_n hx hb dX1_makeReady_8 rfl (lv_at hl 0 rfl) ?_
    refine va_get (D := (dC, dI)) (ci := 2) (v := .ref (a 8)) (C := RX1) (T := TX1) (N := 5) hx hb hts hinX1 hown hK hP 1 rfl rfl 1 (by decide) (hts (.fieldLink RX1 15 "RenameRows$Names" "ready" "[Z") (by decide +kernel)) (fun _ h9 => h9) rfl dX1_makeReady_9 ?_
    refine lv_iload_n hx hb dX1_makeReady_12 rfl (lv_at hl 1 rfl) ?_
    refine lv_iconst (v := nI 1) hx hb dX1_makeReady_13 (by decide) ?_
    refine ar_zst (D := (dC, dI)) (n := n 1) (f := f 8) hx hb hK hP hD hS 8 1 rfl rfl (y := nI 1) (by decide) (by omega) (by omega) dX1_makeReady_14 (fun H locs hP hD hS => ?_)
    have hP : va_P (dC, dI) vwCl (wX cs a n (uf f 8 (upd (f 8) jx (nI 1)))) H := hP
    have hD : va_D A (wX cs a n (uf f 8 (upd (f 8) jx (nI 1)))) := hD
    have hP : va_P (dC, dI) vwCl (wX cs a n (x_mrF n f (nI jx))) H := by
      have e9 : (wX cs a n (uf f 8 (upd (f 8) jx (nI 1)))) = (wX cs a n (x_mrF n f (nI jx))) := by first | (simp [x_mrF, c_1, cl32_nI (show jx < 2 ^ 31 by omega)]; done) | (simp [nI_0, x_mrF, c_1, cl32_nI (show jx < 2 ^ 31 by omega)]; done) | (simp [x_mrF, c_1, cl32_nI (show jx < 2 ^ 31 by omega)]; omega)
      rw [← e9]; exact hP
    exact wr_vret hx hb hr hlocks hP hS dX1_makeReady_15
