set_option maxHeartbeats 4000000 in
set_option maxRecDepth 100000 in
theorem c_X0_isMark (l : Launch) (dC : Nat → ClassId) (dI : Nat → Nat → Nat) (cs : ClassId × ClassId) (a n : Nat → Nat) (f : Nat → Nat → Int32) (x : Int32) (hB : x_bd n)  : Met l yX0_isMark wsX0_isMark ({ frames := 0, cells := 0, slots := 0, locals := 0 }) (rdPc (dC, dI) vwCl (wX cs a n f) (tyl cs) [.ref (a 3), .int x]) (QcRead (b2i (inB x 8))) 0 0 (fun _ => False) := by
  refine rd_of (cc := cX0_isMark) (maxL := 2) (ret := (some .boolean)) (own := RX0) (by decide) rfl rfl (Nat.le_of_ble_eq_true rfl) ?_
  intro p e s m below meth c hx hb hr hml hts hown hlocks hP hK ls hl
  have hl : lv_has ls 2 [(0, .ref (a 3)), (1, .int x)] := hl
  obtain ⟨B1, B2, B3, B4, B5, B6, B7, B8, B9, B10, B11, B12, B13, B14, B15⟩ := id hB
  refine lv_iload_n hx hb dX0_isMark_0 rfl (lv_at hl 1 rfl) ?_
  refine lv_if_lt (tgt := 14) hx hb dX0_isMark_1 (by decide) (fun c_1 => ?_) (fun c_1 => ?_)
  · refine lv_iconst (v := nI 0) hx hb dX0_isMark_14 (by decide) ?_
    refine tp_eq (b_0 (by first | exact inB_lt c_1 | exact inB_in c_1 c_2 | exact inB_ge' c_2) : _ = b2i (inB x 8)) ?_
    exact rd_zret hx hb hr hlocks dX0_isMark_15
  · refine lv_iload_n hx hb dX0_isMark_4 rfl (lv_at hl 1 rfl) ?_
    refine lv_bipush (v := nI 8) hx hb dX0_isMark_5 (by decide) ?_
    refine lv_icmp_ge (tgt := 14) hx hb dX0_isMark_7 (by decide) (fun c_2 => ?_) (fun c_2 => ?_)
    · refine lv_iconst (v := nI 0) hx hb dX0_isMark_14 (by decide) ?_
      refine tp_eq (b_0 (by first | exact inB_lt c_1 | exact inB_in c_1 c_2 | exact inB_ge' c_2) : _ = b2i (inB x 8)) ?_
      exact rd_zret hx hb hr hlocks dX0_isMark_15
    · refine lv_iconst (v := nI 1) hx hb dX0_isMark_10 (by decide) ?_
      refine lv_goto (tgt := 15) hx hb dX0_isMark_11 (by decide) ?_
      refine tp_eq (b_1 (by first | exact inB_lt c_1 | exact inB_in c_1 c_2 | exact inB_ge' c_2) : _ = b2i (inB x 8)) ?_
      exact rd_zret hx hb hr hlocks dX0_isMark_15

set_option maxHeartbeats 4000000 in
set_option maxRecDepth 100000 in
theorem c_X0_takenCount (l : Launch) (dC : Nat → ClassId) (dI : Nat → Nat → Nat) (cs : ClassId × ClassId) (a n : Nat → Nat) (f : Nat → Nat → Int32) (hB : x_bd n)  : Met l yX0_takenCount wsX0_takenCount ({ frames := 0, cells := 0, slots := 0, locals := 0 }) (rdPc (dC, dI) vwCl (wX cs a n f) (tyl cs) [.ref (a 3)]) (QcRead (nI (n 11))) 0 0 (fun _ => False) := by
  refine rd_of (cc := cX0_takenCount) (maxL := 1) (ret := (some .int)) (own := RX0) (by decide) rfl rfl (Nat.le_of_ble_eq_true rfl) ?_
  intro p e s m below meth c hx hb hr hml hts hown hlocks hP hK ls hl
  have hl : lv_has ls 1 [(0, .ref (a 3))] := hl
  have hinX0 : ∀ w ∈ wsX00, w ∈ wsX0_takenCount := by decide +kernel
  obtain ⟨B1, B2, B3, B4, B5, B6, B7, B8, B9, B10, B11, B12, B13, B14, B15⟩ := id hB
  refine lv_aload_n hx hb dX0_takenCount_0 rfl (lv_at hl 0 rfl) ?_
  refine va_get (D := (dC, dI)) (ci := 1) (v := .int (nI (n 11))) (C := RX0) (T := TX0) (N := 3) hx hb hts hinX0 hown hK hP 3 rfl rfl 2 (by decide) (hts (.fieldLink RX0 22 "RenameRows$Marks" "taken" "I") (by decide +kernel)) (fun _ h9 => h9) rfl dX0_takenCount_1 ?_
  exact rd_iret hx hb hr hlocks dX0_takenCount_4

set_option maxHeartbeats 4000000 in
set_option maxRecDepth 100000 in
theorem c_X0_rowsBefore (l : Launch) (dC : Nat → ClassId) (dI : Nat → Nat → Nat) (cs : ClassId × ClassId) (a n : Nat → Nat) (f : Nat → Nat → Int32) (x : Int32) (hB : x_bd n)  : Met l yX0_rowsBefore wsX0_rowsBefore ({ frames := 1, cells := 0, slots := 0, locals := 21 }) (rdPc (dC, dI) vwCl (wX cs a n f) (tyl cs) [.ref (a 3), .int x]) (QcRead (x_bef f x)) 0 0 (fun _ => False) := by
  refine rd_of (cc := cX0_rowsBefore) (maxL := 2) (ret := (some .int)) (own := RX0) (by decide) rfl rfl (Nat.le_of_ble_eq_true rfl) ?_
  intro p e s m below meth c hx hb hr hml hts hown hlocks hP hK ls hl
  have hl : lv_has ls 2 [(0, .ref (a 3)), (1, .int x)] := hl
  have hinX0 : ∀ w ∈ wsX00, w ∈ wsX0_rowsBefore := by decide +kernel
  obtain ⟨B1, B2, B3, B4, B5, B6, B7, B8, B9, B10, B11, B12, B13, B14, B15⟩ := id hB
  refine lv_aload_n hx hb dX0_rowsBefore_0 rfl (lv_at hl 0 rfl) ?_
  refine lv_iload_n hx hb dX0_rowsBefore_1 rfl (lv_at hl 1 rfl) ?_
  refine W.callR (W.runV (As := [.int x]) (rest := []) ⟨hx, hb, hml, hown, hts⟩ (c_X0_isMark l dC dI cs a n f x hB) (cwV 1 hts gX0_rowsBefore_X0_isMark rfl rfl rfl (by decide +kernel) ⟨Nat.le_of_ble_eq_true rfl, Nat.le_of_ble_eq_true rfl⟩) (rd_preV (q := (RX0, TX0, 3)) hP hK 3 rfl rfl) rfl rfl hl.1 rfl (lv_room (Nat.le_of_ble_eq_true rfl)) dX0_rowsBefore_2 ⟨Nat.zero_le _, Nat.zero_le _⟩) ?_
  refine W.eq (g2 := F0 m 5 ls (.int (b2i (inB x 8)) :: [])) rfl ?_
  refine lv_if_eq (tgt := 17) hx hb dX0_rowsBefore_5 (by decide) (fun c_1 => ?_) (fun c_1 => ?_)
  · have c_1 : inB x 8 = false := b2i_f c_1
    refine lv_iconst (v := nI 0) hx hb dX0_rowsBefore_17 (by decide) ?_
    refine tp_eq (show _ = x_bef f x by first | (simp [x_bef, c_1]; done) | (simp [nI_0, x_bef, c_1]; done) | (simp [x_bef, c_1]; omega)) ?_
    exact rd_iret hx hb hr hlocks dX0_rowsBefore_18
  · have c_1 : inB x 8 = true := b2i_t c_1
    obtain ⟨jx, hjx, rfl⟩ := inB_t c_1 (by omega)
    refine lv_aload_n hx hb dX0_rowsBefore_8 rfl (lv_at hl 0 rfl) ?_
    refine va_get (D := (dC, dI)) (ci := 1) (v := .ref (a 17)) (C := RX0) (T := TX0) (N := 3) hx hb hts hinX0 hown hK hP 3 rfl rfl 0 (by decide) (hts (.fieldLink RX0 9 "RenameRows$Marks" "before" "[I") (by decide +kernel)) (fun _ h9 => h9) rfl dX0_rowsBefore_9 ?_
    refine lv_iload_n hx hb dX0_rowsBefore_12 rfl (lv_at hl 1 rfl) ?_
    refine ar_ld (D := (dC, dI)) (n := 8) (f := f 17) hx hb hK hP 17 0 rfl rfl (by omega) (by omega) dX0_rowsBefore_13 ?_
    refine lv_goto (tgt := 18) hx hb dX0_rowsBefore_14 (by decide) ?_
    refine tp_eq (show _ = x_bef f (nI jx) by first | (simp [x_bef, c_1, cl32_nI (show jx < 2 ^ 31 by omega)]; done) | (simp [nI_0, x_bef, c_1, cl32_nI (show jx < 2 ^ 31 by omega)]; done) | (simp [x_bef, c_1, cl32_nI (show jx < 2 ^ 31 by omega)]; omega)) ?_
    exact rd_iret hx hb hr hlocks dX0_rowsBefore_18

set_option maxHeartbeats 4000000 in
set_option maxRecDepth 100000 in
theorem c_X0_oldest (l : Launch) (dC : Nat → ClassId) (dI : Nat → Nat → Nat) (cs : ClassId × ClassId) (a n : Nat → Nat) (f : Nat → Nat → Int32) (hB : x_bd n)  : Met l yX0_oldest wsX0_oldest ({ frames := 0, cells := 0, slots := 0, locals := 0 }) (rdPc (dC, dI) vwCl (wX cs a n f) (tyl cs) [.ref (a 3)]) (QcRead (x_om n f)) 0 0 (fun _ => False) := by
  refine rd_of (cc := cX0_oldest) (maxL := 1) (ret := (some .int)) (own := RX0) (by decide) rfl rfl (Nat.le_of_ble_eq_true rfl) ?_
  intro p e s m below meth c hx hb hr hml hts hown hlocks hP hK ls hl
  have hl : lv_has ls 1 [(0, .ref (a 3))] := hl
  have hinX0 : ∀ w ∈ wsX00, w ∈ wsX0_oldest := by decide +kernel
  obtain ⟨B1, B2, B3, B4, B5, B6, B7, B8, B9, B10, B11, B12, B13, B14, B15⟩ := id hB
  refine lv_aload_n hx hb dX0_oldest_0 rfl (lv_at hl 0 rfl) ?_
  refine va_get (D := (dC, dI)) (ci := 1) (v := .int (nI (n 11))) (C := RX0) (T := TX0) (N := 3) hx hb hts hinX0 hown hK hP 3 rfl rfl 2 (by decide) (hts (.fieldLink RX0 22 "RenameRows$Marks" "taken" "I") (by decide +kernel)) (fun _ h9 => h9) rfl dX0_oldest_1 ?_
  refine lv_if_ne (tgt := 11) hx hb dX0_oldest_4 (by decide) (fun c_1 => ?_) (fun c_1 => ?_)
  · have c_1 : ¬ (n 11) = 0 := fun q => c_1 ((nI_z (by omega)).mpr q)
    refine lv_aload_n hx hb dX0_oldest_11 rfl (lv_at hl 0 rfl) ?_
    refine va_get (D := (dC, dI)) (ci := 1) (v := .ref (a 18)) (C := RX0) (T := TX0) (N := 3) hx hb hts hinX0 hown hK hP 3 rfl rfl 1 (by decide) (hts (.fieldLink RX0 15 "RenameRows$Marks" "byTurn" "[I") (by decide +kernel)) (fun _ h9 => h9) rfl dX0_oldest_12 ?_
    refine lv_iconst (v := nI 0) hx hb dX0_oldest_15 (by decide) ?_
    refine ar_ld (D := (dC, dI)) (n := 8) (f := f 18) hx hb hK hP 18 0 rfl rfl (by omega) (by omega) dX0_oldest_16 ?_
    refine tp_eq (show _ = x_om n f by first | (simp [x_om, c_1]; done) | (simp [nI_0, x_om, c_1]; done) | (simp [x_om, c_1]; omega)) ?_
    exact rd_iret hx hb hr hlocks dX0_oldest_17
  · have c_1 : (n 11) = 0 := (nI_z (by omega)).mp c_1
    refine lv_iconst (v := (-1)) hx hb dX0_oldest_7 (by decide) ?_
    refine lv_goto (tgt := 17) hx hb dX0_oldest_8 (by decide) ?_
    refine tp_eq (show _ = x_om n f by first | (simp [x_om, c_1]; done) | (simp [nI_0, x_om, c_1]; done) | (simp [x_om, c_1]; omega)) ?_
    exact rd_iret hx hb hr hlocks dX0_oldest_17

set_option maxHeartbeats 4000000 in
set_option maxRecDepth 100000 in
theorem c_X0_turnOf (l : Launch) (dC : Nat → ClassId) (dI : Nat → Nat → Nat) (cs : ClassId × ClassId) (a n : Nat → Nat) (f : Nat → Nat → Int32) (x : Int32) (hB : x_bd n)  : Met l yX0_turnOf wsX0_turnOf ({ frames := 0, cells := 0, slots := 0, locals := 0 }) (rdPc (dC, dI) vwCl (wX cs a n f) (tyl cs) [.ref (a 3), .int x]) (QcRead (x_turn n f x)) 0 0 (fun _ => False) := by
  refine rd_of (cc := cX0_turnOf) (maxL := 3) (ret := (some .int)) (own := RX0) (by decide) rfl rfl (Nat.le_of_ble_eq_true rfl) ?_
  intro p e s m below meth c hx hb hr hml hts hown hlocks hP hK ls hl
  have hl : lv_has ls 3 [(0, .ref (a 3)), (1, .int x)] := hl
  have hinX0 : ∀ w ∈ wsX00, w ∈ wsX0_turnOf := by decide +kernel
  obtain ⟨B1, B2, B3, B4, B5, B6, B7, B8, B9, B10, B11, B12, B13, B14, B15⟩ := id hB
  refine lv_iconst (v := nI 0) hx hb dX0_turnOf_0 (by decide) ?_
  refine lv_istore_n (lv' := [(2, .int (nI 0)), (0, .ref (a 3)), (1, .int x)]) hx hb dX0_turnOf_1 rfl hl (by decide) rfl (fun ls hl => ?_)
  have key : ∀ (k t : Nat), t + k = n 11 → x_turn n f x = x_tf f x k t → ∀ ls : Array Slot, lv_has ls 3 [(2, .int (nI t)), (0, .ref (a 3)), (1, .int x)] → W p l e ({ frames := 0, cells := 0, slots := 0, locals := 0 } : Room) s m ([.ref (a 3), .int x] : List Value).toArray below meth c s.heap [] 0 0 (MQ below (QcRead (x_turn n f x)) ([.ref (a 3), .int x] : List Value).toArray s 0 0 (fun _ => False)) (F0 m 2 ls []) := by
    intro k
    induction k with
    | zero =>
      intro t ht hs ls hl
      refine lv_iload_n hx hb dX0_turnOf_2 rfl (lv_at hl 0 rfl) ?_
      refine lv_aload_n hx hb dX0_turnOf_3 rfl (lv_at hl 1 rfl) ?_
      refine va_get (D := (dC, dI)) (ci := 1) (v := .int (nI (n 11))) (C := RX0) (T := TX0) (N := 3) hx hb hts hinX0 hown hK hP 3 rfl rfl 2 (by decide) (hts (.fieldLink RX0 22 "RenameRows$Marks" "taken" "I") (by decide +kernel)) (fun _ h9 => h9) rfl dX0_turnOf_4 ?_
      refine lv_icmp_ge (tgt := 28) hx hb dX0_turnOf_7 (by decide) (fun c_1 => ?_) (fun c_1 => absurd (nI_le (by omega) (by omega)) c_1)
      have c_1 : (n 11) ≤ t := (nI_leI (by omega) (by omega)).mp c_1
      refine lv_iconst (v := (-1)) hx hb dX0_turnOf_28 (by decide) ?_
      refine tp_eq (show _ = x_turn n f x by rw [hs]; simp [x_tf, c_1]) ?_
      exact rd_iret hx hb hr hlocks dX0_turnOf_29
    | succ k ih =>
      intro t ht hs ls hl
      refine lv_iload_n hx hb dX0_turnOf_2 rfl (lv_at hl 0 rfl) ?_
      refine lv_aload_n hx hb dX0_turnOf_3 rfl (lv_at hl 1 rfl) ?_
      refine va_get (D := (dC, dI)) (ci := 1) (v := .int (nI (n 11))) (C := RX0) (T := TX0) (N := 3) hx hb hts hinX0 hown hK hP 3 rfl rfl 2 (by decide) (hts (.fieldLink RX0 22 "RenameRows$Marks" "taken" "I") (by decide +kernel)) (fun _ h9 => h9) rfl dX0_turnOf_4 ?_
      refine lv_icmp_ge (tgt := 28) hx hb dX0_turnOf_7 (by decide) (fun c_2 => absurd ((nI_leI (by omega) (by omega)).mp c_2) (by omega)) (fun c_2 => ?_)
      have c_2 : ¬ (n 11) ≤ t := fun q => c_2 ((nI_leI (by omega) (by omega)).mpr q)
      refine lv_aload_n hx hb dX0_turnOf_10 rfl (lv_at hl 1 rfl) ?_
      refine va_get (D := (dC, dI)) (ci := 1) (v := .ref (a 18)) (C := RX0) (T := TX0) (N := 3) hx hb hts hinX0 hown hK hP 3 rfl rfl 1 (by decide) (hts (.fieldLink RX0 15 "RenameRows$Marks" "byTurn" "[I") (by decide +kernel)) (fun _ h9 => h9) rfl dX0_turnOf_11 ?_
      refine lv_iload_n hx hb dX0_turnOf_14 rfl (lv_at hl 0 rfl) ?_
      refine ar_ld (D := (dC, dI)) (n := 8) (f := f 18) hx hb hK hP 18 0 rfl rfl (by omega) (by omega) dX0_turnOf_15 ?_
      refine lv_iload_n hx hb dX0_turnOf_16 rfl (lv_at hl 2 rfl) ?_
      refine lv_icmp_ne (tgt := 22) hx hb dX0_turnOf_17 (by decide) (fun c_3 => ?_) (fun c_3 => ?_)
      · refine lv_iinc (v := nI (t + 1)) (lv' := [(2, .int (nI (t + 1))), (0, .ref (a 3)), (1, .int x)]) hx hb dX0_turnOf_22 hl (k := 0) rfl (nI_succ t).symm (by decide) rfl (fun ls hl => ?_)
        refine lv_goto (tgt := 2) hx hb dX0_turnOf_25 (by decide) ?_
        exact ih (t + 1) (by omega) (by rw [hs]; simp [x_tf, c_3]) ls (lv_sub hl [0, 1, 2] rfl)
      · refine lv_iload_n hx hb dX0_turnOf_20 rfl (lv_at hl 0 rfl) ?_
        refine tp_eq (show _ = x_turn n f x by rw [hs]; simp [x_tf, c_2, c_3]) ?_
        exact rd_iret hx hb hr hlocks dX0_turnOf_21
  exact key (n 11) 0 (by omega) rfl ls (lv_sub hl [0, 1, 2] rfl)

set_option maxHeartbeats 4000000 in
set_option maxRecDepth 100000 in
theorem c_X0_isFree (l : Launch) (dC : Nat → ClassId) (dI : Nat → Nat → Nat) (cs : ClassId × ClassId) (a n : Nat → Nat) (f : Nat → Nat → Int32) (x : Int32) (hB : x_bd n)  : Met l yX0_isFree wsX0_isFree ({ frames := 1, cells := 0, slots := 0, locals := 22 }) (rdPc (dC, dI) vwCl (wX cs a n f) (tyl cs) [.ref (a 3), .int x]) (QcRead (b2i (decide (x_turn n f x = -1)))) 0 0 (fun _ => False) := by
  refine rd_of (cc := cX0_isFree) (maxL := 2) (ret := (some .boolean)) (own := RX0) (by decide) rfl rfl (Nat.le_of_ble_eq_true rfl) ?_
  intro p e s m below meth c hx hb hr hml hts hown hlocks hP hK ls hl
  have hl : lv_has ls 2 [(0, .ref (a 3)), (1, .int x)] := hl
  obtain ⟨B1, B2, B3, B4, B5, B6, B7, B8, B9, B10, B11, B12, B13, B14, B15⟩ := id hB
  refine lv_aload_n hx hb dX0_isFree_0 rfl (lv_at hl 0 rfl) ?_
  refine lv_iload_n hx hb dX0_isFree_1 rfl (lv_at hl 1 rfl) ?_
  refine W.callR (W.runV (As := [.int x]) (rest := []) ⟨hx, hb, hml, hown, hts⟩ (c_X0_turnOf l dC dI cs a n f x hB) (cwV 1 hts gX0_isFree_X0_turnOf rfl rfl rfl (by decide +kernel) ⟨Nat.le_of_ble_eq_true rfl, Nat.le_of_ble_eq_true rfl⟩) (rd_preV (q := (RX0, TX0, 3)) hP hK 3 rfl rfl) rfl rfl hl.1 rfl (lv_room (Nat.le_of_ble_eq_true rfl)) dX0_isFree_2 ⟨Nat.zero_le _, Nat.zero_le _⟩) ?_
  refine W.eq (g2 := F0 m 5 ls (.int (x_turn n f x) :: [])) rfl ?_
  refine lv_iconst (v := (-1)) hx hb dX0_isFree_5 (by decide) ?_
  refine lv_icmp_ne (tgt := 13) hx hb dX0_isFree_6 (by decide) (fun c_1 => ?_) (fun c_1 => ?_)
  · refine lv_iconst (v := nI 0) hx hb dX0_isFree_13 (by decide) ?_
    refine tp_eq (b_0 (by first | (simp [c_1]; done) | (simp [nI_0, c_1]; done) | (simp [c_1]; omega)) : _ = b2i (decide (x_turn n f x = -1))) ?_
    exact rd_zret hx hb hr hlocks dX0_isFree_14
  · refine lv_iconst (v := nI 1) hx hb dX0_isFree_9 (by decide) ?_
    refine lv_goto (tgt := 14) hx hb dX0_isFree_10 (by decide) ?_
    refine tp_eq (b_1 (by first | (simp [c_1]; done) | (simp [nI_0, c_1]; done) | (simp [c_1]; omega)) : _ = b2i (decide (x_turn n f x = -1))) ?_
    exact rd_zret hx hb hr hlocks dX0_isFree_14

set_option maxHeartbeats 4000000 in
set_option maxRecDepth 100000 in
theorem c_X1_total (l : Launch) (dC : Nat → ClassId) (dI : Nat → Nat → Nat) (cs : ClassId × ClassId) (a n : Nat → Nat) (f : Nat → Nat → Int32) (hB : x_bd n)  : Met l yX1_total wsX1_total ({ frames := 0, cells := 0, slots := 0, locals := 0 }) (rdPc (dC, dI) vwCl (wX cs a n f) (tyl cs) [.ref (a 1)]) (QcRead (nI (n 1))) 0 0 (fun _ => False) := by
  refine rd_of (cc := cX1_total) (maxL := 1) (ret := (some .int)) (own := RX1) (by decide) rfl rfl (Nat.le_of_ble_eq_true rfl) ?_
  intro p e s m below meth c hx hb hr hml hts hown hlocks hP hK ls hl
  have hl : lv_has ls 1 [(0, .ref (a 1))] := hl
  have hinX1 : ∀ w ∈ wsX10, w ∈ wsX1_total := by decide +kernel
  obtain ⟨B1, B2, B3, B4, B5, B6, B7, B8, B9, B10, B11, B12, B13, B14, B15⟩ := id hB
  refine lv_aload_n hx hb dX1_total_0 rfl (lv_at hl 0 rfl) ?_
  refine va_get (D := (dC, dI)) (ci := 2) (v := .ref (a 7)) (C := RX1) (T := TX1) (N := 5) hx hb hts hinX1 hown hK hP 1 rfl rfl 0 (by decide) (hts (.fieldLink RX1 9 "RenameRows$Names" "held" "[I") (by decide +kernel)) (fun _ h9 => h9) rfl dX1_total_1 ?_
  refine va_alen (D := (dC, dI)) hx hb hK hP 7 0 rfl rfl (v := nI (n 1)) rfl dX1_total_4 ?_
  exact rd_iret hx hb hr hlocks dX1_total_5

set_option maxHeartbeats 4000000 in
set_option maxRecDepth 100000 in
theorem c_X1_isName (l : Launch) (dC : Nat → ClassId) (dI : Nat → Nat → Nat) (cs : ClassId × ClassId) (a n : Nat → Nat) (f : Nat → Nat → Int32) (x : Int32) (hB : x_bd n)  : Met l yX1_isName wsX1_isName ({ frames := 0, cells := 0, slots := 0, locals := 0 }) (rdPc (dC, dI) vwCl (wX cs a n f) (tyl cs) [.ref (a 1), .int x]) (QcRead (b2i (inB x (n 1)))) 0 0 (fun _ => False) := by
  refine rd_of (cc := cX1_isName) (maxL := 2) (ret := (some .boolean)) (own := RX1) (by decide) rfl rfl (Nat.le_of_ble_eq_true rfl) ?_
  intro p e s m below meth c hx hb hr hml hts hown hlocks hP hK ls hl
  have hl : lv_has ls 2 [(0, .ref (a 1)), (1, .int x)] := hl
  have hinX1 : ∀ w ∈ wsX10, w ∈ wsX1_isName := by decide +kernel
  obtain ⟨B1, B2, B3, B4, B5, B6, B7, B8, B9, B10, B11, B12, B13, B14, B15⟩ := id hB
  refine lv_iload_n hx hb dX1_isName_0 rfl (lv_at hl 1 rfl) ?_
  refine lv_if_lt (tgt := 17) hx hb dX1_isName_1 (by decide) (fun c_1 => ?_) (fun c_1 => ?_)
  · refine lv_iconst (v := nI 0) hx hb dX1_isName_17 (by decide) ?_
    refine tp_eq (b_0 (by first | exact inB_lt c_1 | exact inB_in c_1 c_2 | exact inB_ge' c_2) : _ = b2i (inB x (n 1))) ?_
    exact rd_zret hx hb hr hlocks dX1_isName_18
  · refine lv_iload_n hx hb dX1_isName_4 rfl (lv_at hl 1 rfl) ?_
    refine lv_aload_n hx hb dX1_isName_5 rfl (lv_at hl 0 rfl) ?_
    refine va_get (D := (dC, dI)) (ci := 2) (v := .ref (a 7)) (C := RX1) (T := TX1) (N := 5) hx hb hts hinX1 hown hK hP 1 rfl rfl 0 (by decide) (hts (.fieldLink RX1 9 "RenameRows$Names" "held" "[I") (by decide +kernel)) (fun _ h9 => h9) rfl dX1_isName_6 ?_
    refine va_alen (D := (dC, dI)) hx hb hK hP 7 0 rfl rfl (v := nI (n 1)) rfl dX1_isName_9 ?_
    refine lv_icmp_ge (tgt := 17) hx hb dX1_isName_10 (by decide) (fun c_2 => ?_) (fun c_2 => ?_)
    · refine lv_iconst (v := nI 0) hx hb dX1_isName_17 (by decide) ?_
      refine tp_eq (b_0 (by first | exact inB_lt c_1 | exact inB_in c_1 c_2 | exact inB_ge' c_2) : _ = b2i (inB x (n 1))) ?_
      exact rd_zret hx hb hr hlocks dX1_isName_18
    · refine lv_iconst (v := nI 1) hx hb dX1_isName_13 (by decide) ?_
      refine lv_goto (tgt := 18) hx hb dX1_isName_14 (by decide) ?_
      refine tp_eq (b_1 (by first | exact inB_lt c_1 | exact inB_in c_1 c_2 | exact inB_ge' c_2) : _ = b2i (inB x (n 1))) ?_
      exact rd_zret hx hb hr hlocks dX1_isName_18

set_option maxHeartbeats 4000000 in
set_option maxRecDepth 100000 in
theorem c_X1_sharesOf (l : Launch) (dC : Nat → ClassId) (dI : Nat → Nat → Nat) (cs : ClassId × ClassId) (a n : Nat → Nat) (f : Nat → Nat → Int32) (x : Int32) (hB : x_bd n)  : Met l yX1_sharesOf wsX1_sharesOf ({ frames := 1, cells := 0, slots := 0, locals := 21 }) (rdPc (dC, dI) vwCl (wX cs a n f) (tyl cs) [.ref (a 1), .int x]) (QcRead (x_sh n f x)) 0 0 (fun _ => False) := by
  refine rd_of (cc := cX1_sharesOf) (maxL := 2) (ret := (some .int)) (own := RX1) (by decide) rfl rfl (Nat.le_of_ble_eq_true rfl) ?_
  intro p e s m below meth c hx hb hr hml hts hown hlocks hP hK ls hl
  have hl : lv_has ls 2 [(0, .ref (a 1)), (1, .int x)] := hl
  have hinX1 : ∀ w ∈ wsX10, w ∈ wsX1_sharesOf := by decide +kernel
  obtain ⟨B1, B2, B3, B4, B5, B6, B7, B8, B9, B10, B11, B12, B13, B14, B15⟩ := id hB
  refine lv_aload_n hx hb dX1_sharesOf_0 rfl (lv_at hl 0 rfl) ?_
  refine lv_iload_n hx hb dX1_sharesOf_1 rfl (lv_at hl 1 rfl) ?_
  refine W.callR (W.runV (As := [.int x]) (rest := []) ⟨hx, hb, hml, hown, hts⟩ (c_X1_isName l dC dI cs a n f x hB) (cwV 1 hts gX1_sharesOf_X1_isName rfl rfl rfl (by decide +kernel) ⟨Nat.le_of_ble_eq_true rfl, Nat.le_of_ble_eq_true rfl⟩) (rd_preV (q := (RX1, TX1, 5)) hP hK 1 rfl rfl) rfl rfl hl.1 rfl (lv_room (Nat.le_of_ble_eq_true rfl)) dX1_sharesOf_2 ⟨Nat.zero_le _, Nat.zero_le _⟩) ?_
  refine W.eq (g2 := F0 m 5 ls (.int (b2i (inB x (n 1))) :: [])) rfl ?_
  refine lv_if_eq (tgt := 17) hx hb dX1_sharesOf_5 (by decide) (fun c_1 => ?_) (fun c_1 => ?_)
  · have c_1 : inB x (n 1) = false := b2i_f c_1
    refine lv_iconst (v := nI 0) hx hb dX1_sharesOf_17 (by decide) ?_
    refine tp_eq (show _ = x_sh n f x by first | (simp [x_sh, c_1]; done) | (simp [nI_0, x_sh, c_1]; done) | (simp [x_sh, c_1]; omega)) ?_
    exact rd_iret hx hb hr hlocks dX1_sharesOf_18
  · have c_1 : inB x (n 1) = true := b2i_t c_1
    obtain ⟨jx, hjx, rfl⟩ := inB_t c_1 (by omega)
    refine lv_aload_n hx hb dX1_sharesOf_8 rfl (lv_at hl 0 rfl) ?_
    refine va_get (D := (dC, dI)) (ci := 2) (v := .ref (a 7)) (C := RX1) (T := TX1) (N := 5) hx hb hts hinX1 hown hK hP 1 rfl rfl 0 (by decide) (hts (.fieldLink RX1 9 "RenameRows$Names" "held" "[I") (by decide +kernel)) (fun _ h9 => h9) rfl dX1_sharesOf_9 ?_
    refine lv_iload_n hx hb dX1_sharesOf_12 rfl (lv_at hl 1 rfl) ?_
    refine ar_ld (D := (dC, dI)) (n := n 1) (f := f 7) hx hb hK hP 7 0 rfl rfl (by omega) (by omega) dX1_sharesOf_13 ?_
    refine lv_goto (tgt := 18) hx hb dX1_sharesOf_14 (by decide) ?_
    refine tp_eq (show _ = x_sh n f (nI jx) by first | (simp [x_sh, c_1, cl32_nI (show jx < 2 ^ 31 by omega)]; done) | (simp [nI_0, x_sh, c_1, cl32_nI (show jx < 2 ^ 31 by omega)]; done) | (simp [x_sh, c_1, cl32_nI (show jx < 2 ^ 31 by omega)]; omega)) ?_
    exact rd_iret hx hb hr hlocks dX1_sharesOf_18

set_option maxHeartbeats 4000000 in
set_option maxRecDepth 100000 in
theorem c_X1_freeCount (l : Launch) (dC : Nat → ClassId) (dI : Nat → Nat → Nat) (cs : ClassId × ClassId) (a n : Nat → Nat) (f : Nat → Nat → Int32) (hB : x_bd n)  : Met l yX1_freeCount wsX1_freeCount ({ frames := 0, cells := 0, slots := 0, locals := 0 }) (rdPc (dC, dI) vwCl (wX cs a n f) (tyl cs) [.ref (a 1)]) (QcRead (nI (n 7))) 0 0 (fun _ => False) := by
  refine rd_of (cc := cX1_freeCount) (maxL := 1) (ret := (some .int)) (own := RX1) (by decide) rfl rfl (Nat.le_of_ble_eq_true rfl) ?_
  intro p e s m below meth c hx hb hr hml hts hown hlocks hP hK ls hl
  have hl : lv_has ls 1 [(0, .ref (a 1))] := hl
  have hinX1 : ∀ w ∈ wsX10, w ∈ wsX1_freeCount := by decide +kernel
  obtain ⟨B1, B2, B3, B4, B5, B6, B7, B8, B9, B10, B11, B12, B13, B14, B15⟩ := id hB
  refine lv_aload_n hx hb dX1_freeCount_0 rfl (lv_at hl 0 rfl) ?_
  refine va_get (D := (dC, dI)) (ci := 2) (v := .int (nI (n 7))) (C := RX1) (T := TX1) (N := 5) hx hb hts hinX1 hown hK hP 1 rfl rfl 4 (by decide) (hts (.fieldLink RX1 22 "RenameRows$Names" "free" "I") (by decide +kernel)) (fun _ h9 => h9) rfl dX1_freeCount_1 ?_
  exact rd_iret hx hb hr hlocks dX1_freeCount_4

set_option maxHeartbeats 4000000 in
set_option maxRecDepth 100000 in
theorem c_X1_slotOf (l : Launch) (dC : Nat → ClassId) (dI : Nat → Nat → Nat) (cs : ClassId × ClassId) (a n : Nat → Nat) (f : Nat → Nat → Int32) (i : Nat) (hB : x_bd n) (h1 : i ≤ n 1)  : Met l yX1_slotOf wsX1_slotOf ({ frames := 0, cells := 0, slots := 0, locals := 0 }) (rdPc (dC, dI) vwCl (wX cs a n f) (tyl cs) [.ref (a 1), .int (nI i)]) (QcRead (nI (x_slot n i))) 0 0 (fun _ => False) := by
  refine rd_of (cc := cX1_slotOf) (maxL := 3) (ret := (some .int)) (own := RX1) (by decide) rfl rfl (Nat.le_of_ble_eq_true rfl) ?_
  intro p e s m below meth c hx hb hr hml hts hown hlocks hP hK ls hl
  have hl : lv_has ls 3 [(0, .ref (a 1)), (1, .int (nI i))] := hl
  have hinX1 : ∀ w ∈ wsX10, w ∈ wsX1_slotOf := by decide +kernel
  obtain ⟨B1, B2, B3, B4, B5, B6, B7, B8, B9, B10, B11, B12, B13, B14, B15⟩ := id hB
  refine lv_aload_n hx hb dX1_slotOf_0 rfl (lv_at hl 0 rfl) ?_
  refine va_get (D := (dC, dI)) (ci := 2) (v := .int (nI (n 6))) (C := RX1) (T := TX1) (N := 5) hx hb hts hinX1 hown hK hP 1 rfl rfl 3 (by decide) (hts (.fieldLink RX1 34 "RenameRows$Names" "first" "I") (by decide +kernel)) (fun _ h9 => h9) rfl dX1_slotOf_1 ?_
  refine lv_iload_n hx hb dX1_slotOf_4 rfl (lv_at hl 1 rfl) ?_
  refine lv_iadd hx hb dX1_slotOf_5 ?_
  refine tp_eq (nI_add (n 6) i) ?_
  refine lv_istore_n (lv' := [(2, .int (nI ((n 6) + i))), (0, .ref (a 1)), (1, .int (nI i))]) hx hb dX1_slotOf_6 rfl hl (by decide) rfl (fun ls hl => ?_)
  refine lv_iload_n hx hb dX1_slotOf_7 rfl (lv_at hl 0 rfl) ?_
  refine lv_aload_n hx hb dX1_slotOf_8 rfl (lv_at hl 1 rfl) ?_
  refine va_get (D := (dC, dI)) (ci := 2) (v := .ref (a 9)) (C := RX1) (T := TX1) (N := 5) hx hb hts hinX1 hown hK hP 1 rfl rfl 2 (by decide) (hts (.fieldLink RX1 19 "RenameRows$Names" "queued" "[I") (by decide +kernel)) (fun _ h9 => h9) rfl dX1_slotOf_9 ?_
  refine va_alen (D := (dC, dI)) hx hb hK hP 9 0 rfl rfl (v := nI (n 1)) rfl dX1_slotOf_12 ?_
  refine lv_icmp_ge (tgt := 20) hx hb dX1_slotOf_13 (by decide) (fun c_1 => ?_) (fun c_1 => ?_)
  · have c_1 : (n 1) ≤ ((n 6) + i) := (nI_leI (by omega) (by omega)).mp c_1
    refine lv_iload_n hx hb dX1_slotOf_20 rfl (lv_at hl 0 rfl) ?_
    refine lv_aload_n hx hb dX1_slotOf_21 rfl (lv_at hl 1 rfl) ?_
    refine va_get (D := (dC, dI)) (ci := 2) (v := .ref (a 9)) (C := RX1) (T := TX1) (N := 5) hx hb hts hinX1 hown hK hP 1 rfl rfl 2 (by decide) (hts (.fieldLink RX1 19 "RenameRows$Names" "queued" "[I") (by decide +kernel)) (fun _ h9 => h9) rfl dX1_slotOf_22 ?_
    refine va_alen (D := (dC, dI)) hx hb hK hP 9 0 rfl rfl (v := nI (n 1)) rfl dX1_slotOf_25 ?_
    refine lv_isub hx hb dX1_slotOf_26 ?_
    refine tp_eq (pk_sub (by omega)) ?_
    refine tp_eq (show _ = nI (x_slot n i) by exact congrArg nI (by unfold x_slot; split <;> omega)) ?_
    exact rd_iret hx hb hr hlocks dX1_slotOf_27
  · have c_1 : ¬ (n 1) ≤ ((n 6) + i) := fun q => c_1 ((nI_leI (by omega) (by omega)).mpr q)
    refine lv_iload_n hx hb dX1_slotOf_16 rfl (lv_at hl 0 rfl) ?_
    refine lv_goto (tgt := 27) hx hb dX1_slotOf_17 (by decide) ?_
    refine tp_eq (show _ = nI (x_slot n i) by exact congrArg nI (by unfold x_slot; split <;> omega)) ?_
    exact rd_iret hx hb hr hlocks dX1_slotOf_27

set_option maxHeartbeats 4000000 in
set_option maxRecDepth 100000 in
theorem c_X1_isReadyOrNone (l : Launch) (dC : Nat → ClassId) (dI : Nat → Nat → Nat) (cs : ClassId × ClassId) (a n : Nat → Nat) (f : Nat → Nat → Int32) (x : Int32) (hB : x_bd n)  : Met l yX1_isReadyOrNone wsX1_isReadyOrNone ({ frames := 1, cells := 0, slots := 0, locals := 21 }) (rdPc (dC, dI) vwCl (wX cs a n f) (tyl cs) [.ref (a 1), .int x]) (QcRead (b2i (x_rdy n f x))) 0 0 (fun _ => False) := by
  refine rd_of (cc := cX1_isReadyOrNone) (maxL := 2) (ret := (some .boolean)) (own := RX1) (by decide) rfl rfl (Nat.le_of_ble_eq_true rfl) ?_
  intro p e s m below meth c hx hb hr hml hts hown hlocks hP hK ls hl
  have hl : lv_has ls 2 [(0, .ref (a 1)), (1, .int x)] := hl
  have hinX1 : ∀ w ∈ wsX10, w ∈ wsX1_isReadyOrNone := by decide +kernel
  obtain ⟨B1, B2, B3, B4, B5, B6, B7, B8, B9, B10, B11, B12, B13, B14, B15⟩ := id hB
  refine lv_aload_n hx hb dX1_isReadyOrNone_0 rfl (lv_at hl 0 rfl) ?_
  refine lv_iload_n hx hb dX1_isReadyOrNone_1 rfl (lv_at hl 1 rfl) ?_
  refine W.callR (W.runV (As := [.int x]) (rest := []) ⟨hx, hb, hml, hown, hts⟩ (c_X1_isName l dC dI cs a n f x hB) (cwV 1 hts gX1_isReadyOrNone_X1_isName rfl rfl rfl (by decide +kernel) ⟨Nat.le_of_ble_eq_true rfl, Nat.le_of_ble_eq_true rfl⟩) (rd_preV (q := (RX1, TX1, 5)) hP hK 1 rfl rfl) rfl rfl hl.1 rfl (lv_room (Nat.le_of_ble_eq_true rfl)) dX1_isReadyOrNone_2 ⟨Nat.zero_le _, Nat.zero_le _⟩) ?_
  refine W.eq (g2 := F0 m 5 ls (.int (b2i (inB x (n 1))) :: [])) rfl ?_
  refine lv_if_eq (tgt := 17) hx hb dX1_isReadyOrNone_5 (by decide) (fun c_1 => ?_) (fun c_1 => ?_)
  · have c_1 : inB x (n 1) = false := b2i_f c_1
    refine lv_iconst (v := nI 1) hx hb dX1_isReadyOrNone_17 (by decide) ?_
    refine lv_goto (tgt := 22) hx hb dX1_isReadyOrNone_18 (by decide) ?_
    refine tp_eq (b_1 (by first | (simp [x_rdy, c_1]; done) | (simp [nI_0, x_rdy, c_1]; done) | (simp [x_rdy, c_1]; omega)) : _ = b2i (x_rdy n f x)) ?_
    exact rd_zret hx hb hr hlocks dX1_isReadyOrNone_22
  · have c_1 : inB x (n 1) = true := b2i_t c_1
    obtain ⟨jx, hjx, rfl⟩ := inB_t c_1 (by omega)
    refine lv_aload_n hx hb dX1_isReadyOrNone_8 rfl (lv_at hl 0 rfl) ?_
    refine va_get (D := (dC, dI)) (ci := 2) (v := .ref (a 8)) (C := RX1) (T := TX1) (N := 5) hx hb hts hinX1 hown hK hP 1 rfl rfl 1 (by decide) (hts (.fieldLink RX1 15 "RenameRows$Names" "ready" "[Z") (by decide +kernel)) (fun _ h9 => h9) rfl dX1_isReadyOrNone_9 ?_
    refine lv_iload_n hx hb dX1_isReadyOrNone_12 rfl (lv_at hl 1 rfl) ?_
    refine ar_zld (D := (dC, dI)) (n := n 1) (f := f 8) hx hb hK hP 8 1 rfl rfl (by omega) (by omega) dX1_isReadyOrNone_13 ?_
    refine lv_if_eq (tgt := 21) hx hb dX1_isReadyOrNone_14 (by decide) (fun c_2 => ?_) (fun c_2 => ?_)
    · refine lv_iconst (v := nI 0) hx hb dX1_isReadyOrNone_21 (by decide) ?_
      refine tp_eq (b_0 (by first | (simp [x_rdy, c_1, c_2, cl32_nI (show jx < 2 ^ 31 by omega)]; done) | (simp [nI_0, x_rdy, c_1, c_2, cl32_nI (show jx < 2 ^ 31 by omega)]; done) | (simp [x_rdy, c_1, c_2, cl32_nI (show jx < 2 ^ 31 by omega)]; omega)) : _ = b2i (x_rdy n f (nI jx))) ?_
      exact rd_zret hx hb hr hlocks dX1_isReadyOrNone_22
    · refine lv_iconst (v := nI 1) hx hb dX1_isReadyOrNone_17 (by decide) ?_
      refine lv_goto (tgt := 22) hx hb dX1_isReadyOrNone_18 (by decide) ?_
      refine tp_eq (b_1 (by first | (simp [x_rdy, c_1, c_2, cl32_nI (show jx < 2 ^ 31 by omega)]; done) | (simp [nI_0, x_rdy, c_1, c_2, cl32_nI (show jx < 2 ^ 31 by omega)]; done) | (simp [x_rdy, c_1, c_2, cl32_nI (show jx < 2 ^ 31 by omega)]; omega)) : _ = b2i (x_rdy n f (nI jx))) ?_
      exact rd_zret hx hb hr hlocks dX1_isReadyOrNone_22

set_option maxHeartbeats 4000000 in
set_option maxRecDepth 100000 in
theorem c_X1_freeAt (l : Launch) (dC : Nat → ClassId) (dI : Nat → Nat → Nat) (cs : ClassId × ClassId) (a n : Nat → Nat) (f : Nat → Nat → Int32) (x : Int32) (hB : x_bd n)  : Met l yX1_freeAt wsX1_freeAt ({ frames := 1, cells := 0, slots := 0, locals := 22 }) (rdPc (dC, dI) vwCl (wX cs a n f) (tyl cs) [.ref (a 1), .int x]) (QcRead (x_fa n f x)) 0 0 (fun _ => False) := by
  refine rd_of (cc := cX1_freeAt) (maxL := 2) (ret := (some .int)) (own := RX1) (by decide) rfl rfl (Nat.le_of_ble_eq_true rfl) ?_
  intro p e s m below meth c hx hb hr hml hts hown hlocks hP hK ls hl
  have hl : lv_has ls 2 [(0, .ref (a 1)), (1, .int x)] := hl
  have hinX1 : ∀ w ∈ wsX10, w ∈ wsX1_freeAt := by decide +kernel
  obtain ⟨B1, B2, B3, B4, B5, B6, B7, B8, B9, B10, B11, B12, B13, B14, B15⟩ := id hB
  refine lv_iload_n hx hb dX1_freeAt_0 rfl (lv_at hl 1 rfl) ?_
  refine lv_if_lt (tgt := 25) hx hb dX1_freeAt_1 (by decide) (fun c_1 => ?_) (fun c_1 => ?_)
  · refine lv_iconst (v := (-1)) hx hb dX1_freeAt_25 (by decide) ?_
    refine tp_eq (show _ = x_fa n f x by first | (simp [x_fa, inB_lt c_1]; done) | (simp [x_fa, inB_ge' c_2]; done) | (have q9 := inB_in c_1 c_2; simp [x_fa, q9, cl32_nI (show jx < 2 ^ 31 by omega)]; done)) ?_
    exact rd_iret hx hb hr hlocks dX1_freeAt_26
  · refine lv_iload_n hx hb dX1_freeAt_4 rfl (lv_at hl 1 rfl) ?_
    refine lv_aload_n hx hb dX1_freeAt_5 rfl (lv_at hl 0 rfl) ?_
    refine va_get (D := (dC, dI)) (ci := 2) (v := .int (nI (n 7))) (C := RX1) (T := TX1) (N := 5) hx hb hts hinX1 hown hK hP 1 rfl rfl 4 (by decide) (hts (.fieldLink RX1 22 "RenameRows$Names" "free" "I") (by decide +kernel)) (fun _ h9 => h9) rfl dX1_freeAt_6 ?_
    refine lv_icmp_ge (tgt := 25) hx hb dX1_freeAt_9 (by decide) (fun c_2 => ?_) (fun c_2 => ?_)
    · refine lv_iconst (v := (-1)) hx hb dX1_freeAt_25 (by decide) ?_
      refine tp_eq (show _ = x_fa n f x by first | (simp [x_fa, inB_lt c_1]; done) | (simp [x_fa, inB_ge' c_2]; done) | (have q9 := inB_in c_1 c_2; simp [x_fa, q9, cl32_nI (show jx < 2 ^ 31 by omega)]; done)) ?_
      exact rd_iret hx hb hr hlocks dX1_freeAt_26
    · obtain ⟨jx, hjx, rfl⟩ := inB_t (inB_in c_1 c_2) (by omega)
      refine lv_aload_n hx hb dX1_freeAt_12 rfl (lv_at hl 0 rfl) ?_
      refine va_get (D := (dC, dI)) (ci := 2) (v := .ref (a 9)) (C := RX1) (T := TX1) (N := 5) hx hb hts hinX1 hown hK hP 1 rfl rfl 2 (by decide) (hts (.fieldLink RX1 19 "RenameRows$Names" "queued" "[I") (by decide +kernel)) (fun _ h9 => h9) rfl dX1_freeAt_13 ?_
      refine lv_aload_n hx hb dX1_freeAt_16 rfl (lv_at hl 0 rfl) ?_
      refine lv_iload_n hx hb dX1_freeAt_17 rfl (lv_at hl 1 rfl) ?_
      refine W.callR (W.runV (As := [.int (nI jx)]) (rest := [.ref (a 9)]) ⟨hx, hb, hml, hown, hts⟩ (c_X1_slotOf l dC dI cs a n f jx hB (by omega)) (cwV 1 hts gX1_freeAt_X1_slotOf rfl rfl rfl (by decide +kernel) ⟨Nat.le_of_ble_eq_true rfl, Nat.le_of_ble_eq_true rfl⟩) (rd_preV (q := (RX1, TX1, 5)) hP hK 1 rfl rfl) rfl rfl hl.1 rfl (lv_room (Nat.le_of_ble_eq_true rfl)) dX1_freeAt_18 ⟨Nat.zero_le _, Nat.zero_le _⟩) ?_
      refine W.eq (g2 := F0 m 21 ls (.int (nI (x_slot n jx)) :: [.ref (a 9)])) rfl ?_
      have k_3 := x_slot_lt (n := n) (k := jx) (by omega) (by omega)
      refine ar_ld (D := (dC, dI)) (n := n 1) (f := f 9) hx hb hK hP 9 0 rfl rfl (by omega) (by omega) dX1_freeAt_21 ?_
      refine lv_goto (tgt := 26) hx hb dX1_freeAt_22 (by decide) ?_
      refine tp_eq (show _ = x_fa n f (nI jx) by first | (simp [x_fa, inB_lt c_1]; done) | (simp [x_fa, inB_ge' c_2]; done) | (have q9 := inB_in c_1 c_2; simp [x_fa, q9, cl32_nI (show jx < 2 ^ 31 by omega)]; done)) ?_
      exact rd_iret hx hb hr hlocks dX1_freeAt_26
