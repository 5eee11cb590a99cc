set_option maxHeartbeats 4000000 in
set_option maxRecDepth 100000 in
theorem c_X2_placeCount (l : Launch) (dC : Nat → ClassId) (dI : Nat → Nat → Nat) (cs : ClassId × ClassId) (a n : Nat → Nat) (f : Nat → Nat → Int32) (hB : x_bd n)  : Met l yX2_placeCount wsX2_placeCount ({ frames := 0, cells := 0, slots := 0, locals := 0 }) (rdPc (dC, dI) vwCl (wX cs a n f) (tyl cs) [.ref (a 2)]) (QcRead (nI (n 2))) 0 0 (fun _ => False) := by
  refine rd_of (cc := cX2_placeCount) (maxL := 1) (ret := (some .int)) (own := RX2) (by decide) rfl rfl (Nat.le_of_ble_eq_true rfl) ?_
  intro p e s m below meth c hx hb hr hml hts hown hlocks hP hK ls hl
  have hl : lv_has ls 1 [(0, .ref (a 2))] := hl
  have hinX2 : ∀ w ∈ wsX20, w ∈ wsX2_placeCount := by decide +kernel
  obtain ⟨B1, B2, B3, B4, B5, B6, B7, B8, B9, B10, B11, B12, B13, B14, B15⟩ := id hB
  refine lv_aload_n hx hb dX2_placeCount_0 rfl (lv_at hl 0 rfl) ?_
  refine va_get (D := (dC, dI)) (ci := 3) (v := .ref (a 16)) (C := RX2) (T := TX2) (N := 10) hx hb hts hinX2 hown hK hP 2 rfl rfl 6 (by decide) (hts (.fieldLink RX2 30 "RenameRows$Ring" "state" "[I") (by decide +kernel)) (fun _ h9 => h9) rfl dX2_placeCount_1 ?_
  refine va_alen (D := (dC, dI)) hx hb hK hP 16 0 rfl rfl (v := nI (n 2)) rfl dX2_placeCount_4 ?_
  exact rd_iret hx hb hr hlocks dX2_placeCount_5

set_option maxHeartbeats 4000000 in
set_option maxRecDepth 100000 in
theorem c_X2_rowCount (l : Launch) (dC : Nat → ClassId) (dI : Nat → Nat → Nat) (cs : ClassId × ClassId) (a n : Nat → Nat) (f : Nat → Nat → Int32) (hB : x_bd n)  : Met l yX2_rowCount wsX2_rowCount ({ frames := 0, cells := 0, slots := 0, locals := 0 }) (rdPc (dC, dI) vwCl (wX cs a n f) (tyl cs) [.ref (a 2)]) (QcRead (nI (n 9))) 0 0 (fun _ => False) := by
  refine rd_of (cc := cX2_rowCount) (maxL := 1) (ret := (some .int)) (own := RX2) (by decide) rfl rfl (Nat.le_of_ble_eq_true rfl) ?_
  intro p e s m below meth c hx hb hr hml hts hown hlocks hP hK ls hl
  have hl : lv_has ls 1 [(0, .ref (a 2))] := hl
  have hinX2 : ∀ w ∈ wsX20, w ∈ wsX2_rowCount := by decide +kernel
  obtain ⟨B1, B2, B3, B4, B5, B6, B7, B8, B9, B10, B11, B12, B13, B14, B15⟩ := id hB
  refine lv_aload_n hx hb dX2_rowCount_0 rfl (lv_at hl 0 rfl) ?_
  refine va_get (D := (dC, dI)) (ci := 3) (v := .int (nI (n 9))) (C := RX2) (T := TX2) (N := 10) hx hb hts hinX2 hown hK hP 2 rfl rfl 8 (by decide) (hts (.fieldLink RX2 33 "RenameRows$Ring" "rows" "I") (by decide +kernel)) (fun _ h9 => h9) rfl dX2_rowCount_1 ?_
  exact rd_iret hx hb hr hlocks dX2_rowCount_4

set_option maxHeartbeats 4000000 in
set_option maxRecDepth 100000 in
theorem c_X2_doneCount (l : Launch) (dC : Nat → ClassId) (dI : Nat → Nat → Nat) (cs : ClassId × ClassId) (a n : Nat → Nat) (f : Nat → Nat → Int32) (hB : x_bd n)  : Met l yX2_doneCount wsX2_doneCount ({ frames := 0, cells := 0, slots := 0, locals := 0 }) (rdPc (dC, dI) vwCl (wX cs a n f) (tyl cs) [.ref (a 2)]) (QcRead (nI (n 10))) 0 0 (fun _ => False) := by
  refine rd_of (cc := cX2_doneCount) (maxL := 1) (ret := (some .int)) (own := RX2) (by decide) rfl rfl (Nat.le_of_ble_eq_true rfl) ?_
  intro p e s m below meth c hx hb hr hml hts hown hlocks hP hK ls hl
  have hl : lv_has ls 1 [(0, .ref (a 2))] := hl
  have hinX2 : ∀ w ∈ wsX20, w ∈ wsX2_doneCount := by decide +kernel
  obtain ⟨B1, B2, B3, B4, B5, B6, B7, B8, B9, B10, B11, B12, B13, B14, B15⟩ := id hB
  refine lv_aload_n hx hb dX2_doneCount_0 rfl (lv_at hl 0 rfl) ?_
  refine va_get (D := (dC, dI)) (ci := 3) (v := .int (nI (n 10))) (C := RX2) (T := TX2) (N := 10) hx hb hts hinX2 hown hK hP 2 rfl rfl 9 (by decide) (hts (.fieldLink RX2 37 "RenameRows$Ring" "done" "I") (by decide +kernel)) (fun _ h9 => h9) rfl dX2_doneCount_1 ?_
  exact rd_iret hx hb hr hlocks dX2_doneCount_4

set_option maxHeartbeats 4000000 in
set_option maxRecDepth 100000 in
theorem c_X2_rowsSinceBeginning (l : Launch) (dC : Nat → ClassId) (dI : Nat → Nat → Nat) (cs : ClassId × ClassId) (a n : Nat → Nat) (f : Nat → Nat → Int32) (hB : x_bd n)  : Met l yX2_rowsSinceBeginning wsX2_rowsSinceBeginning ({ frames := 0, cells := 0, slots := 0, locals := 0 }) (rdPc (dC, dI) vwCl (wX cs a n f) (tyl cs) [.ref (a 2)]) (QcRead (nI ((n 10) + (n 9)))) 0 0 (fun _ => False) := by
  refine rd_of (cc := cX2_rowsSinceBeginning) (maxL := 1) (ret := (some .int)) (own := RX2) (by decide) rfl rfl (Nat.le_of_ble_eq_true rfl) ?_
  intro p e s m below meth c hx hb hr hml hts hown hlocks hP hK ls hl
  have hl : lv_has ls 1 [(0, .ref (a 2))] := hl
  have hinX2 : ∀ w ∈ wsX20, w ∈ wsX2_rowsSinceBeginning := by decide +kernel
  obtain ⟨B1, B2, B3, B4, B5, B6, B7, B8, B9, B10, B11, B12, B13, B14, B15⟩ := id hB
  refine lv_aload_n hx hb dX2_rowsSinceBeginning_0 rfl (lv_at hl 0 rfl) ?_
  refine va_get (D := (dC, dI)) (ci := 3) (v := .int (nI (n 10))) (C := RX2) (T := TX2) (N := 10) hx hb hts hinX2 hown hK hP 2 rfl rfl 9 (by decide) (hts (.fieldLink RX2 37 "RenameRows$Ring" "done" "I") (by decide +kernel)) (fun _ h9 => h9) rfl dX2_rowsSinceBeginning_1 ?_
  refine lv_aload_n hx hb dX2_rowsSinceBeginning_4 rfl (lv_at hl 0 rfl) ?_
  refine va_get (D := (dC, dI)) (ci := 3) (v := .int (nI (n 9))) (C := RX2) (T := TX2) (N := 10) hx hb hts hinX2 hown hK hP 2 rfl rfl 8 (by decide) (hts (.fieldLink RX2 33 "RenameRows$Ring" "rows" "I") (by decide +kernel)) (fun _ h9 => h9) rfl dX2_rowsSinceBeginning_5 ?_
  refine lv_iadd hx hb dX2_rowsSinceBeginning_8 ?_
  refine tp_eq (nI_add (n 10) (n 9)) ?_
  exact rd_iret hx hb hr hlocks dX2_rowsSinceBeginning_9

set_option maxHeartbeats 4000000 in
set_option maxRecDepth 100000 in
theorem c_X2_isFull (l : Launch) (dC : Nat → ClassId) (dI : Nat → Nat → Nat) (cs : ClassId × ClassId) (a n : Nat → Nat) (f : Nat → Nat → Int32) (hB : x_bd n)  : Met l yX2_isFull wsX2_isFull ({ frames := 0, cells := 0, slots := 0, locals := 0 }) (rdPc (dC, dI) vwCl (wX cs a n f) (tyl cs) [.ref (a 2)]) (QcRead (b2i (decide (n 2 ≤ n 9)))) 0 0 (fun _ => False) := by
  refine rd_of (cc := cX2_isFull) (maxL := 1) (ret := (some .boolean)) (own := RX2) (by decide) rfl rfl (Nat.le_of_ble_eq_true rfl) ?_
  intro p e s m below meth c hx hb hr hml hts hown hlocks hP hK ls hl
  have hl : lv_has ls 1 [(0, .ref (a 2))] := hl
  have hinX2 : ∀ w ∈ wsX20, w ∈ wsX2_isFull := by decide +kernel
  obtain ⟨B1, B2, B3, B4, B5, B6, B7, B8, B9, B10, B11, B12, B13, B14, B15⟩ := id hB
  refine lv_aload_n hx hb dX2_isFull_0 rfl (lv_at hl 0 rfl) ?_
  refine va_get (D := (dC, dI)) (ci := 3) (v := .int (nI (n 9))) (C := RX2) (T := TX2) (N := 10) hx hb hts hinX2 hown hK hP 2 rfl rfl 8 (by decide) (hts (.fieldLink RX2 33 "RenameRows$Ring" "rows" "I") (by decide +kernel)) (fun _ h9 => h9) rfl dX2_isFull_1 ?_
  refine lv_aload_n hx hb dX2_isFull_4 rfl (lv_at hl 0 rfl) ?_
  refine va_get (D := (dC, dI)) (ci := 3) (v := .ref (a 16)) (C := RX2) (T := TX2) (N := 10) hx hb hts hinX2 hown hK hP 2 rfl rfl 6 (by decide) (hts (.fieldLink RX2 30 "RenameRows$Ring" "state" "[I") (by decide +kernel)) (fun _ h9 => h9) rfl dX2_isFull_5 ?_
  refine va_alen (D := (dC, dI)) hx hb hK hP 16 0 rfl rfl (v := nI (n 2)) rfl dX2_isFull_8 ?_
  refine lv_icmp_lt (tgt := 16) hx hb dX2_isFull_9 (by decide) (fun c_1 => ?_) (fun c_1 => ?_)
  · have c_1 : (n 9) < (n 2) := (nI_ltI (by omega) (by omega)).mp c_1
    refine lv_iconst (v := nI 0) hx hb dX2_isFull_16 (by decide) ?_
    refine tp_eq (b_0 (by first | (simp [c_1]; done) | (simp [nI_0, c_1]; done) | (simp [c_1]; omega)) : _ = b2i (decide (n 2 ≤ n 9))) ?_
    exact rd_zret hx hb hr hlocks dX2_isFull_17
  · have c_1 : ¬ (n 9) < (n 2) := fun q => c_1 ((nI_ltI (by omega) (by omega)).mpr q)
    refine lv_iconst (v := nI 1) hx hb dX2_isFull_12 (by decide) ?_
    refine lv_goto (tgt := 17) hx hb dX2_isFull_13 (by decide) ?_
    refine tp_eq (b_1 (by first | (simp [c_1]; done) | (simp [nI_0, c_1]; done) | (simp [c_1]; omega)) : _ = b2i (decide (n 2 ≤ n 9))) ?_
    exact rd_zret hx hb hr hlocks dX2_isFull_17

set_option maxHeartbeats 4000000 in
set_option maxRecDepth 100000 in
theorem c_X2_isPlace (l : Launch) (dC : Nat → ClassId) (dI : Nat → Nat → Nat) (cs : ClassId × ClassId) (a n : Nat → Nat) (f : Nat → Nat → Int32) (x : Int32) (hB : x_bd n)  : Met l yX2_isPlace wsX2_isPlace ({ frames := 0, cells := 0, slots := 0, locals := 0 }) (rdPc (dC, dI) vwCl (wX cs a n f) (tyl cs) [.ref (a 2), .int x]) (QcRead (b2i (inB x (n 2)))) 0 0 (fun _ => False) := by
  refine rd_of (cc := cX2_isPlace) (maxL := 2) (ret := (some .boolean)) (own := RX2) (by decide) rfl rfl (Nat.le_of_ble_eq_true rfl) ?_
  intro p e s m below meth c hx hb hr hml hts hown hlocks hP hK ls hl
  have hl : lv_has ls 2 [(0, .ref (a 2)), (1, .int x)] := hl
  have hinX2 : ∀ w ∈ wsX20, w ∈ wsX2_isPlace := by decide +kernel
  obtain ⟨B1, B2, B3, B4, B5, B6, B7, B8, B9, B10, B11, B12, B13, B14, B15⟩ := id hB
  refine lv_iload_n hx hb dX2_isPlace_0 rfl (lv_at hl 1 rfl) ?_
  refine lv_if_lt (tgt := 17) hx hb dX2_isPlace_1 (by decide) (fun c_1 => ?_) (fun c_1 => ?_)
  · refine lv_iconst (v := nI 0) hx hb dX2_isPlace_17 (by decide) ?_
    refine tp_eq (b_0 (by first | exact inB_lt c_1 | exact inB_in c_1 c_2 | exact inB_ge' c_2) : _ = b2i (inB x (n 2))) ?_
    exact rd_zret hx hb hr hlocks dX2_isPlace_18
  · refine lv_iload_n hx hb dX2_isPlace_4 rfl (lv_at hl 1 rfl) ?_
    refine lv_aload_n hx hb dX2_isPlace_5 rfl (lv_at hl 0 rfl) ?_
    refine va_get (D := (dC, dI)) (ci := 3) (v := .ref (a 16)) (C := RX2) (T := TX2) (N := 10) hx hb hts hinX2 hown hK hP 2 rfl rfl 6 (by decide) (hts (.fieldLink RX2 30 "RenameRows$Ring" "state" "[I") (by decide +kernel)) (fun _ h9 => h9) rfl dX2_isPlace_6 ?_
    refine va_alen (D := (dC, dI)) hx hb hK hP 16 0 rfl rfl (v := nI (n 2)) rfl dX2_isPlace_9 ?_
    refine lv_icmp_ge (tgt := 17) hx hb dX2_isPlace_10 (by decide) (fun c_2 => ?_) (fun c_2 => ?_)
    · refine lv_iconst (v := nI 0) hx hb dX2_isPlace_17 (by decide) ?_
      refine tp_eq (b_0 (by first | exact inB_lt c_1 | exact inB_in c_1 c_2 | exact inB_ge' c_2) : _ = b2i (inB x (n 2))) ?_
      exact rd_zret hx hb hr hlocks dX2_isPlace_18
    · refine lv_iconst (v := nI 1) hx hb dX2_isPlace_13 (by decide) ?_
      refine lv_goto (tgt := 18) hx hb dX2_isPlace_14 (by decide) ?_
      refine tp_eq (b_1 (by first | exact inB_lt c_1 | exact inB_in c_1 c_2 | exact inB_ge' c_2) : _ = b2i (inB x (n 2))) ?_
      exact rd_zret hx hb hr hlocks dX2_isPlace_18

set_option maxHeartbeats 4000000 in
set_option maxRecDepth 100000 in
theorem c_X2_placeOfAge (l : Launch) (dC : Nat → ClassId) (dI : Nat → Nat → Nat) (cs : ClassId × ClassId) (a n : Nat → Nat) (f : Nat → Nat → Int32) (i : Nat) (hB : x_bd n) (h1 : i < 1000)  : Met l yX2_placeOfAge wsX2_placeOfAge ({ frames := 0, cells := 0, slots := 0, locals := 0 }) (rdPc (dC, dI) vwCl (wX cs a n f) (tyl cs) [.ref (a 2), .int (nI i)]) (QcRead (nI (x_pos n i))) 0 0 (fun _ => False) := by
  refine rd_of (cc := cX2_placeOfAge) (maxL := 3) (ret := (some .int)) (own := RX2) (by decide) rfl rfl (Nat.le_of_ble_eq_true rfl) ?_
  intro p e s m below meth c hx hb hr hml hts hown hlocks hP hK ls hl
  have hl : lv_has ls 3 [(0, .ref (a 2)), (1, .int (nI i))] := hl
  have hinX2 : ∀ w ∈ wsX20, w ∈ wsX2_placeOfAge := by decide +kernel
  obtain ⟨B1, B2, B3, B4, B5, B6, B7, B8, B9, B10, B11, B12, B13, B14, B15⟩ := id hB
  refine lv_aload_n hx hb dX2_placeOfAge_0 rfl (lv_at hl 0 rfl) ?_
  refine va_get (D := (dC, dI)) (ci := 3) (v := .int (nI (n 8))) (C := RX2) (T := TX2) (N := 10) hx hb hts hinX2 hown hK hP 2 rfl rfl 7 (by decide) (hts (.fieldLink RX2 51 "RenameRows$Ring" "oldest" "I") (by decide +kernel)) (fun _ h9 => h9) rfl dX2_placeOfAge_1 ?_
  refine lv_iload_n hx hb dX2_placeOfAge_4 rfl (lv_at hl 1 rfl) ?_
  refine lv_iadd hx hb dX2_placeOfAge_5 ?_
  refine tp_eq (nI_add (n 8) i) ?_
  refine lv_istore_n (lv' := [(2, .int (nI ((n 8) + i))), (0, .ref (a 2)), (1, .int (nI i))]) hx hb dX2_placeOfAge_6 rfl hl (by decide) rfl (fun ls hl => ?_)
  refine lv_iload_n hx hb dX2_placeOfAge_7 rfl (lv_at hl 0 rfl) ?_
  refine lv_aload_n hx hb dX2_placeOfAge_8 rfl (lv_at hl 1 rfl) ?_
  refine va_get (D := (dC, dI)) (ci := 3) (v := .ref (a 16)) (C := RX2) (T := TX2) (N := 10) hx hb hts hinX2 hown hK hP 2 rfl rfl 6 (by decide) (hts (.fieldLink RX2 30 "RenameRows$Ring" "state" "[I") (by decide +kernel)) (fun _ h9 => h9) rfl dX2_placeOfAge_9 ?_
  refine va_alen (D := (dC, dI)) hx hb hK hP 16 0 rfl rfl (v := nI (n 2)) rfl dX2_placeOfAge_12 ?_
  refine lv_icmp_ge (tgt := 20) hx hb dX2_placeOfAge_13 (by decide) (fun c_1 => ?_) (fun c_1 => ?_)
  · have c_1 : (n 2) ≤ ((n 8) + i) := (nI_leI (by omega) (by omega)).mp c_1
    refine lv_iload_n hx hb dX2_placeOfAge_20 rfl (lv_at hl 0 rfl) ?_
    refine lv_aload_n hx hb dX2_placeOfAge_21 rfl (lv_at hl 1 rfl) ?_
    refine va_get (D := (dC, dI)) (ci := 3) (v := .ref (a 16)) (C := RX2) (T := TX2) (N := 10) hx hb hts hinX2 hown hK hP 2 rfl rfl 6 (by decide) (hts (.fieldLink RX2 30 "RenameRows$Ring" "state" "[I") (by decide +kernel)) (fun _ h9 => h9) rfl dX2_placeOfAge_22 ?_
    refine va_alen (D := (dC, dI)) hx hb hK hP 16 0 rfl rfl (v := nI (n 2)) rfl dX2_placeOfAge_25 ?_
    refine lv_isub hx hb dX2_placeOfAge_26 ?_
    refine tp_eq (pk_sub (by omega)) ?_
    refine tp_eq (show _ = nI (x_pos n i) by exact congrArg nI (by unfold x_pos; split <;> omega)) ?_
    exact rd_iret hx hb hr hlocks dX2_placeOfAge_27
  · have c_1 : ¬ (n 2) ≤ ((n 8) + i) := fun q => c_1 ((nI_leI (by omega) (by omega)).mpr q)
    refine lv_iload_n hx hb dX2_placeOfAge_16 rfl (lv_at hl 0 rfl) ?_
    refine lv_goto (tgt := 27) hx hb dX2_placeOfAge_17 (by decide) ?_
    refine tp_eq (show _ = nI (x_pos n i) by exact congrArg nI (by unfold x_pos; split <;> omega)) ?_
    exact rd_iret hx hb hr hlocks dX2_placeOfAge_27

set_option maxHeartbeats 4000000 in
set_option maxRecDepth 100000 in
theorem c_X2_ageOf (l : Launch) (dC : Nat → ClassId) (dI : Nat → Nat → Nat) (cs : ClassId × ClassId) (a n : Nat → Nat) (f : Nat → Nat → Int32) (j : Nat) (hB : x_bd n) (h1 : j < n 2)  : Met l yX2_ageOf wsX2_ageOf ({ frames := 0, cells := 0, slots := 0, locals := 0 }) (rdPc (dC, dI) vwCl (wX cs a n f) (tyl cs) [.ref (a 2), .int (nI j)]) (QcRead (nI (x_age n j))) 0 0 (fun _ => False) := by
  refine rd_of (cc := cX2_ageOf) (maxL := 2) (ret := (some .int)) (own := RX2) (by decide) rfl rfl (Nat.le_of_ble_eq_true rfl) ?_
  intro p e s m below meth c hx hb hr hml hts hown hlocks hP hK ls hl
  have hl : lv_has ls 2 [(0, .ref (a 2)), (1, .int (nI j))] := hl
  have hinX2 : ∀ w ∈ wsX20, w ∈ wsX2_ageOf := by decide +kernel
  obtain ⟨B1, B2, B3, B4, B5, B6, B7, B8, B9, B10, B11, B12, B13, B14, B15⟩ := id hB
  refine lv_iload_n hx hb dX2_ageOf_0 rfl (lv_at hl 1 rfl) ?_
  refine lv_aload_n hx hb dX2_ageOf_1 rfl (lv_at hl 0 rfl) ?_
  refine va_get (D := (dC, dI)) (ci := 3) (v := .int (nI (n 8))) (C := RX2) (T := TX2) (N := 10) hx hb hts hinX2 hown hK hP 2 rfl rfl 7 (by decide) (hts (.fieldLink RX2 51 "RenameRows$Ring" "oldest" "I") (by decide +kernel)) (fun _ h9 => h9) rfl dX2_ageOf_2 ?_
  refine lv_icmp_lt (tgt := 17) hx hb dX2_ageOf_5 (by decide) (fun c_1 => ?_) (fun c_1 => ?_)
  · have c_1 : j < (n 8) := (nI_ltI (by omega) (by omega)).mp c_1
    refine lv_iload_n hx hb dX2_ageOf_17 rfl (lv_at hl 1 rfl) ?_
    refine lv_aload_n hx hb dX2_ageOf_18 rfl (lv_at hl 0 rfl) ?_
    refine va_get (D := (dC, dI)) (ci := 3) (v := .int (nI (n 8))) (C := RX2) (T := TX2) (N := 10) hx hb hts hinX2 hown hK hP 2 rfl rfl 7 (by decide) (hts (.fieldLink RX2 51 "RenameRows$Ring" "oldest" "I") (by decide +kernel)) (fun _ h9 => h9) rfl dX2_ageOf_19 ?_
    refine lv_isub hx hb dX2_ageOf_22 ?_
    refine lv_aload_n hx hb dX2_ageOf_23 rfl (lv_at hl 0 rfl) ?_
    refine va_get (D := (dC, dI)) (ci := 3) (v := .ref (a 16)) (C := RX2) (T := TX2) (N := 10) hx hb hts hinX2 hown hK hP 2 rfl rfl 6 (by decide) (hts (.fieldLink RX2 30 "RenameRows$Ring" "state" "[I") (by decide +kernel)) (fun _ h9 => h9) rfl dX2_ageOf_24 ?_
    refine va_alen (D := (dC, dI)) hx hb hK hP 16 0 rfl rfl (v := nI (n 2)) rfl dX2_ageOf_27 ?_
    refine lv_iadd hx hb dX2_ageOf_28 ?_
    refine tp_eq (nI_sa (by omega)) ?_
    refine tp_eq (show _ = nI (x_age n j) by exact congrArg nI (by unfold x_age; split <;> omega)) ?_
    exact rd_iret hx hb hr hlocks dX2_ageOf_29
  · have c_1 : ¬ j < (n 8) := fun q => c_1 ((nI_ltI (by omega) (by omega)).mpr q)
    refine lv_iload_n hx hb dX2_ageOf_8 rfl (lv_at hl 1 rfl) ?_
    refine lv_aload_n hx hb dX2_ageOf_9 rfl (lv_at hl 0 rfl) ?_
    refine va_get (D := (dC, dI)) (ci := 3) (v := .int (nI (n 8))) (C := RX2) (T := TX2) (N := 10) hx hb hts hinX2 hown hK hP 2 rfl rfl 7 (by decide) (hts (.fieldLink RX2 51 "RenameRows$Ring" "oldest" "I") (by decide +kernel)) (fun _ h9 => h9) rfl dX2_ageOf_10 ?_
    refine lv_isub hx hb dX2_ageOf_13 ?_
    refine tp_eq (pk_sub (by omega)) ?_
    refine lv_goto (tgt := 29) hx hb dX2_ageOf_14 (by decide) ?_
    refine tp_eq (show _ = nI (x_age n j) by exact congrArg nI (by unfold x_age; split <;> omega)) ?_
    exact rd_iret hx hb hr hlocks dX2_ageOf_29

set_option maxHeartbeats 4000000 in
set_option maxRecDepth 100000 in
theorem c_X2_holdsRow (l : Launch) (dC : Nat → ClassId) (dI : Nat → Nat → Nat) (cs : ClassId × ClassId) (a n : Nat → Nat) (f : Nat → Nat → Int32) (x : Int32) (hB : x_bd n)  : Met l yX2_holdsRow wsX2_holdsRow ({ frames := 1, cells := 0, slots := 0, locals := 21 }) (rdPc (dC, dI) vwCl (wX cs a n f) (tyl cs) [.ref (a 2), .int x]) (QcRead (b2i (x_holds n x))) 0 0 (fun _ => False) := by
  refine rd_of (cc := cX2_holdsRow) (maxL := 2) (ret := (some .boolean)) (own := RX2) (by decide) rfl rfl (Nat.le_of_ble_eq_true rfl) ?_
  intro p e s m below meth c hx hb hr hml hts hown hlocks hP hK ls hl
  have hl : lv_has ls 2 [(0, .ref (a 2)), (1, .int x)] := hl
  have hinX2 : ∀ w ∈ wsX20, w ∈ wsX2_holdsRow := by decide +kernel
  obtain ⟨B1, B2, B3, B4, B5, B6, B7, B8, B9, B10, B11, B12, B13, B14, B15⟩ := id hB
  refine lv_aload_n hx hb dX2_holdsRow_0 rfl (lv_at hl 0 rfl) ?_
  refine lv_iload_n hx hb dX2_holdsRow_1 rfl (lv_at hl 1 rfl) ?_
  refine W.callR (W.runV (As := [.int x]) (rest := []) ⟨hx, hb, hml, hown, hts⟩ (c_X2_isPlace l dC dI cs a n f x hB) (cwV 1 hts gX2_holdsRow_X2_isPlace rfl rfl rfl (by decide +kernel) ⟨Nat.le_of_ble_eq_true rfl, Nat.le_of_ble_eq_true rfl⟩) (rd_preV (q := (RX2, TX2, 10)) hP hK 2 rfl rfl) rfl rfl hl.1 rfl (lv_room (Nat.le_of_ble_eq_true rfl)) dX2_holdsRow_2 ⟨Nat.zero_le _, Nat.zero_le _⟩) ?_
  refine W.eq (g2 := F0 m 5 ls (.int (b2i (inB x (n 2))) :: [])) rfl ?_
  refine lv_if_eq (tgt := 24) hx hb dX2_holdsRow_5 (by decide) (fun c_1 => ?_) (fun c_1 => ?_)
  · have c_1 : inB x (n 2) = false := b2i_f c_1
    refine lv_iconst (v := nI 0) hx hb dX2_holdsRow_24 (by decide) ?_
    refine tp_eq (b_0 (by first | (simp [x_holds, c_1]; done) | (rw [x_holds_nI hjx (by omega)]; simp; omega)) : _ = b2i (x_holds n x)) ?_
    exact rd_zret hx hb hr hlocks dX2_holdsRow_25
  · have c_1 : inB x (n 2) = true := b2i_t c_1
    obtain ⟨jx, hjx, rfl⟩ := inB_t c_1 (by omega)
    refine lv_aload_n hx hb dX2_holdsRow_8 rfl (lv_at hl 0 rfl) ?_
    refine lv_iload_n hx hb dX2_holdsRow_9 rfl (lv_at hl 1 rfl) ?_
    refine W.callR (W.runV (As := [.int (nI jx)]) (rest := []) ⟨hx, hb, hml, hown, hts⟩ (c_X2_ageOf l dC dI cs a n f jx hB (by omega)) (cwV 1 hts gX2_holdsRow_X2_ageOf rfl rfl rfl (by decide +kernel) ⟨Nat.le_of_ble_eq_true rfl, Nat.le_of_ble_eq_true rfl⟩) (rd_preV (q := (RX2, TX2, 10)) hP hK 2 rfl rfl) rfl rfl hl.1 rfl (lv_room (Nat.le_of_ble_eq_true rfl)) dX2_holdsRow_10 ⟨Nat.zero_le _, Nat.zero_le _⟩) ?_
    refine W.eq (g2 := F0 m 13 ls (.int (nI (x_age n jx)) :: [])) rfl ?_
    have k_2 := x_age_lt (n := n) (p := jx) (by omega) (by omega)
    refine lv_aload_n hx hb dX2_holdsRow_13 rfl (lv_at hl 0 rfl) ?_
    refine va_get (D := (dC, dI)) (ci := 3) (v := .int (nI (n 9))) (C := RX2) (T := TX2) (N := 10) hx hb hts hinX2 hown hK hP 2 rfl rfl 8 (by decide) (hts (.fieldLink RX2 33 "RenameRows$Ring" "rows" "I") (by decide +kernel)) (fun _ h9 => h9) rfl dX2_holdsRow_14 ?_
    refine lv_icmp_ge (tgt := 24) hx hb dX2_holdsRow_17 (by decide) (fun c_3 => ?_) (fun c_3 => ?_)
    · have c_3 : (n 9) ≤ (x_age n jx) := (nI_leI (by omega) (by omega)).mp c_3
      refine lv_iconst (v := nI 0) hx hb dX2_holdsRow_24 (by decide) ?_
      refine tp_eq (b_0 (by first | (simp [x_holds, c_1]; done) | (rw [x_holds_nI hjx (by omega)]; simp; omega)) : _ = b2i (x_holds n (nI jx))) ?_
      exact rd_zret hx hb hr hlocks dX2_holdsRow_25
    · have c_3 : ¬ (n 9) ≤ (x_age n jx) := fun q => c_3 ((nI_leI (by omega) (by omega)).mpr q)
      refine lv_iconst (v := nI 1) hx hb dX2_holdsRow_20 (by decide) ?_
      refine lv_goto (tgt := 25) hx hb dX2_holdsRow_21 (by decide) ?_
      refine tp_eq (b_1 (by first | (simp [x_holds, c_1]; done) | (rw [x_holds_nI hjx (by omega)]; simp; omega)) : _ = b2i (x_holds n (nI jx))) ?_
      exact rd_zret hx hb hr hlocks dX2_holdsRow_25

set_option maxHeartbeats 4000000 in
set_option maxRecDepth 100000 in
theorem c_X2_isInState (l : Launch) (dC : Nat → ClassId) (dI : Nat → Nat → Nat) (cs : ClassId × ClassId) (a n : Nat → Nat) (f : Nat → Nat → Int32) (x : Int32) (w : Int32) (hB : x_bd n)  : Met l yX2_isInState wsX2_isInState ({ frames := 2, cells := 0, slots := 0, locals := 42 }) (rdPc (dC, dI) vwCl (wX cs a n f) (tyl cs) [.ref (a 2), .int x, .int w]) (QcRead (b2i (x_isIn n f x w))) 0 0 (fun _ => False) := by
  refine rd_of (cc := cX2_isInState) (maxL := 3) (ret := (some .boolean)) (own := RX2) (by decide) rfl rfl (Nat.le_of_ble_eq_true rfl) ?_
  intro p e s m below meth c hx hb hr hml hts hown hlocks hP hK ls hl
  have hl : lv_has ls 3 [(0, .ref (a 2)), (1, .int x), (2, .int w)] := hl
  have hinX2 : ∀ w ∈ wsX20, w ∈ wsX2_isInState := by decide +kernel
  obtain ⟨B1, B2, B3, B4, B5, B6, B7, B8, B9, B10, B11, B12, B13, B14, B15⟩ := id hB
  refine lv_aload_n hx hb dX2_isInState_0 rfl (lv_at hl 0 rfl) ?_
  refine lv_iload_n hx hb dX2_isInState_1 rfl (lv_at hl 1 rfl) ?_
  refine W.callR (W.runV (As := [.int x]) (rest := []) ⟨hx, hb, hml, hown, hts⟩ (c_X2_holdsRow l dC dI cs a n f x hB) (cwV 1 hts gX2_isInState_X2_holdsRow rfl rfl rfl (by decide +kernel) ⟨Nat.le_of_ble_eq_true rfl, Nat.le_of_ble_eq_true rfl⟩) (rd_preV (q := (RX2, TX2, 10)) hP hK 2 rfl rfl) rfl rfl hl.1 rfl (lv_room (Nat.le_of_ble_eq_true rfl)) dX2_isInState_2 ⟨Nat.zero_le _, Nat.zero_le _⟩) ?_
  refine W.eq (g2 := F0 m 5 ls (.int (b2i (x_holds n x)) :: [])) rfl ?_
  refine lv_if_eq (tgt := 22) hx hb dX2_isInState_5 (by decide) (fun c_1 => ?_) (fun c_1 => ?_)
  · have c_1 : x_holds n x = false := b2i_f c_1
    refine lv_iconst (v := nI 0) hx hb dX2_isInState_22 (by decide) ?_
    refine tp_eq (b_0 (by first | (simp [x_isIn, c_1]; done) | (simp [nI_0, x_isIn, c_1]; done) | (simp [x_isIn, c_1]; omega)) : _ = b2i (x_isIn n f x w)) ?_
    exact rd_zret hx hb hr hlocks dX2_isInState_23
  · have c_1 : x_holds n x = true := b2i_t c_1
    obtain ⟨jx, hjx, rfl⟩ := x_holds_t c_1 (by omega)
    refine lv_aload_n hx hb dX2_isInState_8 rfl (lv_at hl 0 rfl) ?_
    refine va_get (D := (dC, dI)) (ci := 3) (v := .ref (a 16)) (C := RX2) (T := TX2) (N := 10) hx hb hts hinX2 hown hK hP 2 rfl rfl 6 (by decide) (hts (.fieldLink RX2 30 "RenameRows$Ring" "state" "[I") (by decide +kernel)) (fun _ h9 => h9) rfl dX2_isInState_9 ?_
    refine lv_iload_n hx hb dX2_isInState_12 rfl (lv_at hl 1 rfl) ?_
    refine ar_ld (D := (dC, dI)) (n := n 2) (f := f 16) hx hb hK hP 16 0 rfl rfl (by omega) (by omega) dX2_isInState_13 ?_
    refine lv_iload_n hx hb dX2_isInState_14 rfl (lv_at hl 2 rfl) ?_
    refine lv_icmp_ne (tgt := 22) hx hb dX2_isInState_15 (by decide) (fun c_2 => ?_) (fun c_2 => ?_)
    · refine lv_iconst (v := nI 0) hx hb dX2_isInState_22 (by decide) ?_
      refine tp_eq (b_0 (by first | (simp [x_isIn, c_1, c_2, cl32_nI (show jx < 2 ^ 31 by omega)]; done) | (simp [nI_0, x_isIn, c_1, c_2, cl32_nI (show jx < 2 ^ 31 by omega)]; done) | (simp [x_isIn, c_1, c_2, cl32_nI (show jx < 2 ^ 31 by omega)]; omega)) : _ = b2i (x_isIn n f (nI jx) w)) ?_
      exact rd_zret hx hb hr hlocks dX2_isInState_23
    · refine lv_iconst (v := nI 1) hx hb dX2_isInState_18 (by decide) ?_
      refine lv_goto (tgt := 23) hx hb dX2_isInState_19 (by decide) ?_
      refine tp_eq (b_1 (by first | (simp [x_isIn, c_1, c_2, cl32_nI (show jx < 2 ^ 31 by omega)]; done) | (simp [nI_0, x_isIn, c_1, c_2, cl32_nI (show jx < 2 ^ 31 by omega)]; done) | (simp [x_isIn, c_1, c_2, cl32_nI (show jx < 2 ^ 31 by omega)]; omega)) : _ = b2i (x_isIn n f (nI jx) w)) ?_
      exact rd_zret hx hb hr hlocks dX2_isInState_23

set_option maxHeartbeats 4000000 in
set_option maxRecDepth 100000 in
theorem c_X2_oldestPlace (l : Launch) (dC : Nat → ClassId) (dI : Nat → Nat → Nat) (cs : ClassId × ClassId) (a n : Nat → Nat) (f : Nat → Nat → Int32) (hB : x_bd n)  : Met l yX2_oldestPlace wsX2_oldestPlace ({ frames := 0, cells := 0, slots := 0, locals := 0 }) (rdPc (dC, dI) vwCl (wX cs a n f) (tyl cs) [.ref (a 2)]) (QcRead (x_old n)) 0 0 (fun _ => False) := by
  refine rd_of (cc := cX2_oldestPlace) (maxL := 1) (ret := (some .int)) (own := RX2) (by decide) rfl rfl (Nat.le_of_ble_eq_true rfl) ?_
  intro p e s m below meth c hx hb hr hml hts hown hlocks hP hK ls hl
  have hl : lv_has ls 1 [(0, .ref (a 2))] := hl
  have hinX2 : ∀ w ∈ wsX20, w ∈ wsX2_oldestPlace := by decide +kernel
  obtain ⟨B1, B2, B3, B4, B5, B6, B7, B8, B9, B10, B11, B12, B13, B14, B15⟩ := id hB
  refine lv_aload_n hx hb dX2_oldestPlace_0 rfl (lv_at hl 0 rfl) ?_
  refine va_get (D := (dC, dI)) (ci := 3) (v := .int (nI (n 9))) (C := RX2) (T := TX2) (N := 10) hx hb hts hinX2 hown hK hP 2 rfl rfl 8 (by decide) (hts (.fieldLink RX2 33 "RenameRows$Ring" "rows" "I") (by decide +kernel)) (fun _ h9 => h9) rfl dX2_oldestPlace_1 ?_
  refine lv_if_ne (tgt := 11) hx hb dX2_oldestPlace_4 (by decide) (fun c_1 => ?_) (fun c_1 => ?_)
  · have c_1 : ¬ (n 9) = 0 := fun q => c_1 ((nI_z (by omega)).mpr q)
    refine lv_aload_n hx hb dX2_oldestPlace_11 rfl (lv_at hl 0 rfl) ?_
    refine va_get (D := (dC, dI)) (ci := 3) (v := .int (nI (n 8))) (C := RX2) (T := TX2) (N := 10) hx hb hts hinX2 hown hK hP 2 rfl rfl 7 (by decide) (hts (.fieldLink RX2 51 "RenameRows$Ring" "oldest" "I") (by decide +kernel)) (fun _ h9 => h9) rfl dX2_oldestPlace_12 ?_
    refine tp_eq (show _ = x_old n by first | (simp [x_old, c_1]; done) | (simp [nI_0, x_old, c_1]; done) | (simp [x_old, c_1]; omega)) ?_
    exact rd_iret hx hb hr hlocks dX2_oldestPlace_15
  · have c_1 : (n 9) = 0 := (nI_z (by omega)).mp c_1
    refine lv_iconst (v := (-1)) hx hb dX2_oldestPlace_7 (by decide) ?_
    refine lv_goto (tgt := 15) hx hb dX2_oldestPlace_8 (by decide) ?_
    refine tp_eq (show _ = x_old n by first | (simp [x_old, c_1]; done) | (simp [nI_0, x_old, c_1]; done) | (simp [x_old, c_1]; omega)) ?_
    exact rd_iret hx hb hr hlocks dX2_oldestPlace_15

set_option maxHeartbeats 4000000 in
set_option maxRecDepth 100000 in
theorem c_X2_lastPlace (l : Launch) (dC : Nat → ClassId) (dI : Nat → Nat → Nat) (cs : ClassId × ClassId) (a n : Nat → Nat) (f : Nat → Nat → Int32) (hB : x_bd n)  : Met l yX2_lastPlace wsX2_lastPlace ({ frames := 1, cells := 0, slots := 0, locals := 22 }) (rdPc (dC, dI) vwCl (wX cs a n f) (tyl cs) [.ref (a 2)]) (QcRead (x_last n)) 0 0 (fun _ => False) := by
  refine rd_of (cc := cX2_lastPlace) (maxL := 1) (ret := (some .int)) (own := RX2) (by decide) rfl rfl (Nat.le_of_ble_eq_true rfl) ?_
  intro p e s m below meth c hx hb hr hml hts hown hlocks hP hK ls hl
  have hl : lv_has ls 1 [(0, .ref (a 2))] := hl
  have hinX2 : ∀ w ∈ wsX20, w ∈ wsX2_lastPlace := by decide +kernel
  obtain ⟨B1, B2, B3, B4, B5, B6, B7, B8, B9, B10, B11, B12, B13, B14, B15⟩ := id hB
  refine lv_aload_n hx hb dX2_lastPlace_0 rfl (lv_at hl 0 rfl) ?_
  refine va_get (D := (dC, dI)) (ci := 3) (v := .int (nI (n 9))) (C := RX2) (T := TX2) (N := 10) hx hb hts hinX2 hown hK hP 2 rfl rfl 8 (by decide) (hts (.fieldLink RX2 33 "RenameRows$Ring" "rows" "I") (by decide +kernel)) (fun _ h9 => h9) rfl dX2_lastPlace_1 ?_
  refine lv_if_ne (tgt := 11) hx hb dX2_lastPlace_4 (by decide) (fun c_1 => ?_) (fun c_1 => ?_)
  · have c_1 : ¬ (n 9) = 0 := fun q => c_1 ((nI_z (by omega)).mpr q)
    refine lv_aload_n hx hb dX2_lastPlace_11 rfl (lv_at hl 0 rfl) ?_
    refine lv_aload_n hx hb dX2_lastPlace_12 rfl (lv_at hl 0 rfl) ?_
    refine va_get (D := (dC, dI)) (ci := 3) (v := .int (nI (n 9))) (C := RX2) (T := TX2) (N := 10) hx hb hts hinX2 hown hK hP 2 rfl rfl 8 (by decide) (hts (.fieldLink RX2 33 "RenameRows$Ring" "rows" "I") (by decide +kernel)) (fun _ h9 => h9) rfl dX2_lastPlace_13 ?_
    refine lv_iconst (v := nI 1) hx hb dX2_lastPlace_16 (by decide) ?_
    refine lv_isub hx hb dX2_lastPlace_17 ?_
    refine tp_eq (pk_sub (by omega)) ?_
    refine W.callR (W.runV (As := [.int (nI ((n 9) - 1))]) (rest := []) ⟨hx, hb, hml, hown, hts⟩ (c_X2_placeOfAge l dC dI cs a n f ((n 9) - 1) hB (by omega)) (cwV 1 hts gX2_lastPlace_X2_placeOfAge rfl rfl rfl (by decide +kernel) ⟨Nat.le_of_ble_eq_true rfl, Nat.le_of_ble_eq_true rfl⟩) (rd_preV (q := (RX2, TX2, 10)) hP hK 2 rfl rfl) rfl rfl hl.1 rfl (lv_room (Nat.le_of_ble_eq_true rfl)) dX2_lastPlace_18 ⟨Nat.zero_le _, Nat.zero_le _⟩) ?_
    refine W.eq (g2 := F0 m 21 ls (.int (nI (x_pos n ((n 9) - 1))) :: [])) rfl ?_
    have k_2 := x_pos_lt (n := n) (i := ((n 9) - 1)) (by omega) (by omega)
    refine tp_eq (show _ = x_last n by first | (simp [x_last, c_1]; done) | (simp [nI_0, x_last, c_1]; done) | (simp [x_last, c_1]; omega)) ?_
    exact rd_iret hx hb hr hlocks dX2_lastPlace_21
  · have c_1 : (n 9) = 0 := (nI_z (by omega)).mp c_1
    refine lv_iconst (v := (-1)) hx hb dX2_lastPlace_7 (by decide) ?_
    refine lv_goto (tgt := 21) hx hb dX2_lastPlace_8 (by decide) ?_
    refine tp_eq (show _ = x_last n by first | (simp [x_last, c_1]; done) | (simp [nI_0, x_last, c_1]; done) | (simp [x_last, c_1]; omega)) ?_
    exact rd_iret hx hb hr hlocks dX2_lastPlace_21

set_option maxHeartbeats 4000000 in
set_option maxRecDepth 100000 in
theorem c_X2_readAAt (l : Launch) (dC : Nat → ClassId) (dI : Nat → Nat → Nat) (cs : ClassId × ClassId) (a n : Nat → Nat) (f : Nat → Nat → Int32) (x : Int32) (hB : x_bd n)  : Met l yX2_readAAt wsX2_readAAt ({ frames := 1, cells := 0, slots := 0, locals := 21 }) (rdPc (dC, dI) vwCl (wX cs a n f) (tyl cs) [.ref (a 2), .int x]) (QcRead (x_at 10 n f x)) 0 0 (fun _ => False) := by
  refine rd_of (cc := cX2_readAAt) (maxL := 2) (ret := (some .int)) (own := RX2) (by decide) rfl rfl (Nat.le_of_ble_eq_true rfl) ?_
  intro p e s m below meth c hx hb hr hml hts hown hlocks hP hK ls hl
  have hl : lv_has ls 2 [(0, .ref (a 2)), (1, .int x)] := hl
  have hinX2 : ∀ w ∈ wsX20, w ∈ wsX2_readAAt := by decide +kernel
  obtain ⟨B1, B2, B3, B4, B5, B6, B7, B8, B9, B10, B11, B12, B13, B14, B15⟩ := id hB
  refine lv_aload_n hx hb dX2_readAAt_0 rfl (lv_at hl 0 rfl) ?_
  refine lv_iload_n hx hb dX2_readAAt_1 rfl (lv_at hl 1 rfl) ?_
  refine W.callR (W.runV (As := [.int x]) (rest := []) ⟨hx, hb, hml, hown, hts⟩ (c_X2_isPlace l dC dI cs a n f x hB) (cwV 1 hts gX2_readAAt_X2_isPlace rfl rfl rfl (by decide +kernel) ⟨Nat.le_of_ble_eq_true rfl, Nat.le_of_ble_eq_true rfl⟩) (rd_preV (q := (RX2, TX2, 10)) hP hK 2 rfl rfl) rfl rfl hl.1 rfl (lv_room (Nat.le_of_ble_eq_true rfl)) dX2_readAAt_2 ⟨Nat.zero_le _, Nat.zero_le _⟩) ?_
  refine W.eq (g2 := F0 m 5 ls (.int (b2i (inB x (n 2))) :: [])) rfl ?_
  refine lv_if_eq (tgt := 17) hx hb dX2_readAAt_5 (by decide) (fun c_1 => ?_) (fun c_1 => ?_)
  · have c_1 : inB x (n 2) = false := b2i_f c_1
    refine lv_iconst (v := (-1)) hx hb dX2_readAAt_17 (by decide) ?_
    refine tp_eq (show _ = x_at 10 n f x by first | (simp [x_at, c_1]; done) | (simp [nI_0, x_at, c_1]; done) | (simp [x_at, c_1]; omega)) ?_
    exact rd_iret hx hb hr hlocks dX2_readAAt_18
  · have c_1 : inB x (n 2) = true := b2i_t c_1
    obtain ⟨jx, hjx, rfl⟩ := inB_t c_1 (by omega)
    refine lv_aload_n hx hb dX2_readAAt_8 rfl (lv_at hl 0 rfl) ?_
    refine va_get (D := (dC, dI)) (ci := 3) (v := .ref (a 10)) (C := RX2) (T := TX2) (N := 10) hx hb hts hinX2 hown hK hP 2 rfl rfl 0 (by decide) (hts (.fieldLink RX2 9 "RenameRows$Ring" "readA" "[I") (by decide +kernel)) (fun _ h9 => h9) rfl dX2_readAAt_9 ?_
    refine lv_iload_n hx hb dX2_readAAt_12 rfl (lv_at hl 1 rfl) ?_
    refine ar_ld (D := (dC, dI)) (n := n 2) (f := f 10) hx hb hK hP 10 0 rfl rfl (by omega) (by omega) dX2_readAAt_13 ?_
    refine lv_goto (tgt := 18) hx hb dX2_readAAt_14 (by decide) ?_
    refine tp_eq (show _ = x_at 10 n f (nI jx) by first | (simp [x_at, c_1, cl32_nI (show jx < 2 ^ 31 by omega)]; done) | (simp [nI_0, x_at, c_1, cl32_nI (show jx < 2 ^ 31 by omega)]; done) | (simp [x_at, c_1, cl32_nI (show jx < 2 ^ 31 by omega)]; omega)) ?_
    exact rd_iret hx hb hr hlocks dX2_readAAt_18

set_option maxHeartbeats 4000000 in
set_option maxRecDepth 100000 in
theorem c_X2_readBAt (l : Launch) (dC : Nat → ClassId) (dI : Nat → Nat → Nat) (cs : ClassId × ClassId) (a n : Nat → Nat) (f : Nat → Nat → Int32) (x : Int32) (hB : x_bd n)  : Met l yX2_readBAt wsX2_readBAt ({ frames := 1, cells := 0, slots := 0, locals := 21 }) (rdPc (dC, dI) vwCl (wX cs a n f) (tyl cs) [.ref (a 2), .int x]) (QcRead (x_at 11 n f x)) 0 0 (fun _ => False) := by
  refine rd_of (cc := cX2_readBAt) (maxL := 2) (ret := (some .int)) (own := RX2) (by decide) rfl rfl (Nat.le_of_ble_eq_true rfl) ?_
  intro p e s m below meth c hx hb hr hml hts hown hlocks hP hK ls hl
  have hl : lv_has ls 2 [(0, .ref (a 2)), (1, .int x)] := hl
  have hinX2 : ∀ w ∈ wsX20, w ∈ wsX2_readBAt := by decide +kernel
  obtain ⟨B1, B2, B3, B4, B5, B6, B7, B8, B9, B10, B11, B12, B13, B14, B15⟩ := id hB
  refine lv_aload_n hx hb dX2_readBAt_0 rfl (lv_at hl 0 rfl) ?_
  refine lv_iload_n hx hb dX2_readBAt_1 rfl (lv_at hl 1 rfl) ?_
  refine W.callR (W.runV (As := [.int x]) (rest := []) ⟨hx, hb, hml, hown, hts⟩ (c_X2_isPlace l dC dI cs a n f x hB) (cwV 1 hts gX2_readBAt_X2_isPlace rfl rfl rfl (by decide +kernel) ⟨Nat.le_of_ble_eq_true rfl, Nat.le_of_ble_eq_true rfl⟩) (rd_preV (q := (RX2, TX2, 10)) hP hK 2 rfl rfl) rfl rfl hl.1 rfl (lv_room (Nat.le_of_ble_eq_true rfl)) dX2_readBAt_2 ⟨Nat.zero_le _, Nat.zero_le _⟩) ?_
  refine W.eq (g2 := F0 m 5 ls (.int (b2i (inB x (n 2))) :: [])) rfl ?_
  refine lv_if_eq (tgt := 17) hx hb dX2_readBAt_5 (by decide) (fun c_1 => ?_) (fun c_1 => ?_)
  · have c_1 : inB x (n 2) = false := b2i_f c_1
    refine lv_iconst (v := (-1)) hx hb dX2_readBAt_17 (by decide) ?_
    refine tp_eq (show _ = x_at 11 n f x by first | (simp [x_at, c_1]; done) | (simp [nI_0, x_at, c_1]; done) | (simp [x_at, c_1]; omega)) ?_
    exact rd_iret hx hb hr hlocks dX2_readBAt_18
  · have c_1 : inB x (n 2) = true := b2i_t c_1
    obtain ⟨jx, hjx, rfl⟩ := inB_t c_1 (by omega)
    refine lv_aload_n hx hb dX2_readBAt_8 rfl (lv_at hl 0 rfl) ?_
    refine va_get (D := (dC, dI)) (ci := 3) (v := .ref (a 11)) (C := RX2) (T := TX2) (N := 10) hx hb hts hinX2 hown hK hP 2 rfl rfl 1 (by decide) (hts (.fieldLink RX2 15 "RenameRows$Ring" "readB" "[I") (by decide +kernel)) (fun _ h9 => h9) rfl dX2_readBAt_9 ?_
    refine lv_iload_n hx hb dX2_readBAt_12 rfl (lv_at hl 1 rfl) ?_
    refine ar_ld (D := (dC, dI)) (n := n 2) (f := f 11) hx hb hK hP 11 0 rfl rfl (by omega) (by omega) dX2_readBAt_13 ?_
    refine lv_goto (tgt := 18) hx hb dX2_readBAt_14 (by decide) ?_
    refine tp_eq (show _ = x_at 11 n f (nI jx) by first | (simp [x_at, c_1, cl32_nI (show jx < 2 ^ 31 by omega)]; done) | (simp [nI_0, x_at, c_1, cl32_nI (show jx < 2 ^ 31 by omega)]; done) | (simp [x_at, c_1, cl32_nI (show jx < 2 ^ 31 by omega)]; omega)) ?_
    exact rd_iret hx hb hr hlocks dX2_readBAt_18

set_option maxHeartbeats 4000000 in
set_option maxRecDepth 100000 in
theorem c_X2_givenAt (l : Launch) (dC : Nat → ClassId) (dI : Nat → Nat → Nat) (cs : ClassId × ClassId) (a n : Nat → Nat) (f : Nat → Nat → Int32) (x : Int32) (hB : x_bd n)  : Met l yX2_givenAt wsX2_givenAt ({ frames := 1, cells := 0, slots := 0, locals := 21 }) (rdPc (dC, dI) vwCl (wX cs a n f) (tyl cs) [.ref (a 2), .int x]) (QcRead (x_at 12 n f x)) 0 0 (fun _ => False) := by
  refine rd_of (cc := cX2_givenAt) (maxL := 2) (ret := (some .int)) (own := RX2) (by decide) rfl rfl (Nat.le_of_ble_eq_true rfl) ?_
  intro p e s m below meth c hx hb hr hml hts hown hlocks hP hK ls hl
  have hl : lv_has ls 2 [(0, .ref (a 2)), (1, .int x)] := hl
  have hinX2 : ∀ w ∈ wsX20, w ∈ wsX2_givenAt := by decide +kernel
  obtain ⟨B1, B2, B3, B4, B5, B6, B7, B8, B9, B10, B11, B12, B13, B14, B15⟩ := id hB
  refine lv_aload_n hx hb dX2_givenAt_0 rfl (lv_at hl 0 rfl) ?_
  refine lv_iload_n hx hb dX2_givenAt_1 rfl (lv_at hl 1 rfl) ?_
  refine W.callR (W.runV (As := [.int x]) (rest := []) ⟨hx, hb, hml, hown, hts⟩ (c_X2_isPlace l dC dI cs a n f x hB) (cwV 1 hts gX2_givenAt_X2_isPlace rfl rfl rfl (by decide +kernel) ⟨Nat.le_of_ble_eq_true rfl, Nat.le_of_ble_eq_true rfl⟩) (rd_preV (q := (RX2, TX2, 10)) hP hK 2 rfl rfl) rfl rfl hl.1 rfl (lv_room (Nat.le_of_ble_eq_true rfl)) dX2_givenAt_2 ⟨Nat.zero_le _, Nat.zero_le _⟩) ?_
  refine W.eq (g2 := F0 m 5 ls (.int (b2i (inB x (n 2))) :: [])) rfl ?_
  refine lv_if_eq (tgt := 17) hx hb dX2_givenAt_5 (by decide) (fun c_1 => ?_) (fun c_1 => ?_)
  · have c_1 : inB x (n 2) = false := b2i_f c_1
    refine lv_iconst (v := (-1)) hx hb dX2_givenAt_17 (by decide) ?_
    refine tp_eq (show _ = x_at 12 n f x by first | (simp [x_at, c_1]; done) | (simp [nI_0, x_at, c_1]; done) | (simp [x_at, c_1]; omega)) ?_
    exact rd_iret hx hb hr hlocks dX2_givenAt_18
  · have c_1 : inB x (n 2) = true := b2i_t c_1
    obtain ⟨jx, hjx, rfl⟩ := inB_t c_1 (by omega)
    refine lv_aload_n hx hb dX2_givenAt_8 rfl (lv_at hl 0 rfl) ?_
    refine va_get (D := (dC, dI)) (ci := 3) (v := .ref (a 12)) (C := RX2) (T := TX2) (N := 10) hx hb hts hinX2 hown hK hP 2 rfl rfl 2 (by decide) (hts (.fieldLink RX2 18 "RenameRows$Ring" "given" "[I") (by decide +kernel)) (fun _ h9 => h9) rfl dX2_givenAt_9 ?_
    refine lv_iload_n hx hb dX2_givenAt_12 rfl (lv_at hl 1 rfl) ?_
    refine ar_ld (D := (dC, dI)) (n := n 2) (f := f 12) hx hb hK hP 12 0 rfl rfl (by omega) (by omega) dX2_givenAt_13 ?_
    refine lv_goto (tgt := 18) hx hb dX2_givenAt_14 (by decide) ?_
    refine tp_eq (show _ = x_at 12 n f (nI jx) by first | (simp [x_at, c_1, cl32_nI (show jx < 2 ^ 31 by omega)]; done) | (simp [nI_0, x_at, c_1, cl32_nI (show jx < 2 ^ 31 by omega)]; done) | (simp [x_at, c_1, cl32_nI (show jx < 2 ^ 31 by omega)]; omega)) ?_
    exact rd_iret hx hb hr hlocks dX2_givenAt_18

set_option maxHeartbeats 4000000 in
set_option maxRecDepth 100000 in
theorem c_X2_knownAt (l : Launch) (dC : Nat → ClassId) (dI : Nat → Nat → Nat) (cs : ClassId × ClassId) (a n : Nat → Nat) (f : Nat → Nat → Int32) (x : Int32) (hB : x_bd n)  : Met l yX2_knownAt wsX2_knownAt ({ frames := 1, cells := 0, slots := 0, locals := 21 }) (rdPc (dC, dI) vwCl (wX cs a n f) (tyl cs) [.ref (a 2), .int x]) (QcRead (x_at 13 n f x)) 0 0 (fun _ => False) := by
  refine rd_of (cc := cX2_knownAt) (maxL := 2) (ret := (some .int)) (own := RX2) (by decide) rfl rfl (Nat.le_of_ble_eq_true rfl) ?_
  intro p e s m below meth c hx hb hr hml hts hown hlocks hP hK ls hl
  have hl : lv_has ls 2 [(0, .ref (a 2)), (1, .int x)] := hl
  have hinX2 : ∀ w ∈ wsX20, w ∈ wsX2_knownAt := by decide +kernel
  obtain ⟨B1, B2, B3, B4, B5, B6, B7, B8, B9, B10, B11, B12, B13, B14, B15⟩ := id hB
  refine lv_aload_n hx hb dX2_knownAt_0 rfl (lv_at hl 0 rfl) ?_
  refine lv_iload_n hx hb dX2_knownAt_1 rfl (lv_at hl 1 rfl) ?_
  refine W.callR (W.runV (As := [.int x]) (rest := []) ⟨hx, hb, hml, hown, hts⟩ (c_X2_isPlace l dC dI cs a n f x hB) (cwV 1 hts gX2_knownAt_X2_isPlace rfl rfl rfl (by decide +kernel) ⟨Nat.le_of_ble_eq_true rfl, Nat.le_of_ble_eq_true rfl⟩) (rd_preV (q := (RX2, TX2, 10)) hP hK 2 rfl rfl) rfl rfl hl.1 rfl (lv_room (Nat.le_of_ble_eq_true rfl)) dX2_knownAt_2 ⟨Nat.zero_le _, Nat.zero_le _⟩) ?_
  refine W.eq (g2 := F0 m 5 ls (.int (b2i (inB x (n 2))) :: [])) rfl ?_
  refine lv_if_eq (tgt := 17) hx hb dX2_knownAt_5 (by decide) (fun c_1 => ?_) (fun c_1 => ?_)
  · have c_1 : inB x (n 2) = false := b2i_f c_1
    refine lv_iconst (v := (-1)) hx hb dX2_knownAt_17 (by decide) ?_
    refine tp_eq (show _ = x_at 13 n f x by first | (simp [x_at, c_1]; done) | (simp [nI_0, x_at, c_1]; done) | (simp [x_at, c_1]; omega)) ?_
    exact rd_iret hx hb hr hlocks dX2_knownAt_18
  · have c_1 : inB x (n 2) = true := b2i_t c_1
    obtain ⟨jx, hjx, rfl⟩ := inB_t c_1 (by omega)
    refine lv_aload_n hx hb dX2_knownAt_8 rfl (lv_at hl 0 rfl) ?_
    refine va_get (D := (dC, dI)) (ci := 3) (v := .ref (a 13)) (C := RX2) (T := TX2) (N := 10) hx hb hts hinX2 hown hK hP 2 rfl rfl 3 (by decide) (hts (.fieldLink RX2 21 "RenameRows$Ring" "known" "[I") (by decide +kernel)) (fun _ h9 => h9) rfl dX2_knownAt_9 ?_
    refine lv_iload_n hx hb dX2_knownAt_12 rfl (lv_at hl 1 rfl) ?_
    refine ar_ld (D := (dC, dI)) (n := n 2) (f := f 13) hx hb hK hP 13 0 rfl rfl (by omega) (by omega) dX2_knownAt_13 ?_
    refine lv_goto (tgt := 18) hx hb dX2_knownAt_14 (by decide) ?_
    refine tp_eq (show _ = x_at 13 n f (nI jx) by first | (simp [x_at, c_1, cl32_nI (show jx < 2 ^ 31 by omega)]; done) | (simp [nI_0, x_at, c_1, cl32_nI (show jx < 2 ^ 31 by omega)]; done) | (simp [x_at, c_1, cl32_nI (show jx < 2 ^ 31 by omega)]; omega)) ?_
    exact rd_iret hx hb hr hlocks dX2_knownAt_18

set_option maxHeartbeats 4000000 in
set_option maxRecDepth 100000 in
theorem c_X2_registerAt (l : Launch) (dC : Nat → ClassId) (dI : Nat → Nat → Nat) (cs : ClassId × ClassId) (a n : Nat → Nat) (f : Nat → Nat → Int32) (x : Int32) (hB : x_bd n)  : Met l yX2_registerAt wsX2_registerAt ({ frames := 1, cells := 0, slots := 0, locals := 21 }) (rdPc (dC, dI) vwCl (wX cs a n f) (tyl cs) [.ref (a 2), .int x]) (QcRead (x_at 14 n f x)) 0 0 (fun _ => False) := by
  refine rd_of (cc := cX2_registerAt) (maxL := 2) (ret := (some .int)) (own := RX2) (by decide) rfl rfl (Nat.le_of_ble_eq_true rfl) ?_
  intro p e s m below meth c hx hb hr hml hts hown hlocks hP hK ls hl
  have hl : lv_has ls 2 [(0, .ref (a 2)), (1, .int x)] := hl
  have hinX2 : ∀ w ∈ wsX20, w ∈ wsX2_registerAt := by decide +kernel
  obtain ⟨B1, B2, B3, B4, B5, B6, B7, B8, B9, B10, B11, B12, B13, B14, B15⟩ := id hB
  refine lv_aload_n hx hb dX2_registerAt_0 rfl (lv_at hl 0 rfl) ?_
  refine lv_iload_n hx hb dX2_registerAt_1 rfl (lv_at hl 1 rfl) ?_
  refine W.callR (W.runV (As := [.int x]) (rest := []) ⟨hx, hb, hml, hown, hts⟩ (c_X2_isPlace l dC dI cs a n f x hB) (cwV 1 hts gX2_registerAt_X2_isPlace rfl rfl rfl (by decide +kernel) ⟨Nat.le_of_ble_eq_true rfl, Nat.le_of_ble_eq_true rfl⟩) (rd_preV (q := (RX2, TX2, 10)) hP hK 2 rfl rfl) rfl rfl hl.1 rfl (lv_room (Nat.le_of_ble_eq_true rfl)) dX2_registerAt_2 ⟨Nat.zero_le _, Nat.zero_le _⟩) ?_
  refine W.eq (g2 := F0 m 5 ls (.int (b2i (inB x (n 2))) :: [])) rfl ?_
  refine lv_if_eq (tgt := 17) hx hb dX2_registerAt_5 (by decide) (fun c_1 => ?_) (fun c_1 => ?_)
  · have c_1 : inB x (n 2) = false := b2i_f c_1
    refine lv_iconst (v := (-1)) hx hb dX2_registerAt_17 (by decide) ?_
    refine tp_eq (show _ = x_at 14 n f x by first | (simp [x_at, c_1]; done) | (simp [nI_0, x_at, c_1]; done) | (simp [x_at, c_1]; omega)) ?_
    exact rd_iret hx hb hr hlocks dX2_registerAt_18
  · have c_1 : inB x (n 2) = true := b2i_t c_1
    obtain ⟨jx, hjx, rfl⟩ := inB_t c_1 (by omega)
    refine lv_aload_n hx hb dX2_registerAt_8 rfl (lv_at hl 0 rfl) ?_
    refine va_get (D := (dC, dI)) (ci := 3) (v := .ref (a 14)) (C := RX2) (T := TX2) (N := 10) hx hb hts hinX2 hown hK hP 2 rfl rfl 4 (by decide) (hts (.fieldLink RX2 24 "RenameRows$Ring" "register" "[I") (by decide +kernel)) (fun _ h9 => h9) rfl dX2_registerAt_9 ?_
    refine lv_iload_n hx hb dX2_registerAt_12 rfl (lv_at hl 1 rfl) ?_
    refine ar_ld (D := (dC, dI)) (n := n 2) (f := f 14) hx hb hK hP 14 0 rfl rfl (by omega) (by omega) dX2_registerAt_13 ?_
    refine lv_goto (tgt := 18) hx hb dX2_registerAt_14 (by decide) ?_
    refine tp_eq (show _ = x_at 14 n f (nI jx) by first | (simp [x_at, c_1, cl32_nI (show jx < 2 ^ 31 by omega)]; done) | (simp [nI_0, x_at, c_1, cl32_nI (show jx < 2 ^ 31 by omega)]; done) | (simp [x_at, c_1, cl32_nI (show jx < 2 ^ 31 by omega)]; omega)) ?_
    exact rd_iret hx hb hr hlocks dX2_registerAt_18

set_option maxHeartbeats 4000000 in
set_option maxRecDepth 100000 in
theorem c_X2_portAt (l : Launch) (dC : Nat → ClassId) (dI : Nat → Nat → Nat) (cs : ClassId × ClassId) (a n : Nat → Nat) (f : Nat → Nat → Int32) (x : Int32) (hB : x_bd n)  : Met l yX2_portAt wsX2_portAt ({ frames := 1, cells := 0, slots := 0, locals := 21 }) (rdPc (dC, dI) vwCl (wX cs a n f) (tyl cs) [.ref (a 2), .int x]) (QcRead (x_at 15 n f x)) 0 0 (fun _ => False) := by
  refine rd_of (cc := cX2_portAt) (maxL := 2) (ret := (some .int)) (own := RX2) (by decide) rfl rfl (Nat.le_of_ble_eq_true rfl) ?_
  intro p e s m below meth c hx hb hr hml hts hown hlocks hP hK ls hl
  have hl : lv_has ls 2 [(0, .ref (a 2)), (1, .int x)] := hl
  have hinX2 : ∀ w ∈ wsX20, w ∈ wsX2_portAt := by decide +kernel
  obtain ⟨B1, B2, B3, B4, B5, B6, B7, B8, B9, B10, B11, B12, B13, B14, B15⟩ := id hB
  refine lv_aload_n hx hb dX2_portAt_0 rfl (lv_at hl 0 rfl) ?_
  refine lv_iload_n hx hb dX2_portAt_1 rfl (lv_at hl 1 rfl) ?_
  refine W.callR (W.runV (As := [.int x]) (rest := []) ⟨hx, hb, hml, hown, hts⟩ (c_X2_isPlace l dC dI cs a n f x hB) (cwV 1 hts gX2_portAt_X2_isPlace rfl rfl rfl (by decide +kernel) ⟨Nat.le_of_ble_eq_true rfl, Nat.le_of_ble_eq_true rfl⟩) (rd_preV (q := (RX2, TX2, 10)) hP hK 2 rfl rfl) rfl rfl hl.1 rfl (lv_room (Nat.le_of_ble_eq_true rfl)) dX2_portAt_2 ⟨Nat.zero_le _, Nat.zero_le _⟩) ?_
  refine W.eq (g2 := F0 m 5 ls (.int (b2i (inB x (n 2))) :: [])) rfl ?_
  refine lv_if_eq (tgt := 17) hx hb dX2_portAt_5 (by decide) (fun c_1 => ?_) (fun c_1 => ?_)
  · have c_1 : inB x (n 2) = false := b2i_f c_1
    refine lv_iconst (v := (-1)) hx hb dX2_portAt_17 (by decide) ?_
    refine tp_eq (show _ = x_at 15 n f x by first | (simp [x_at, c_1]; done) | (simp [nI_0, x_at, c_1]; done) | (simp [x_at, c_1]; omega)) ?_
    exact rd_iret hx hb hr hlocks dX2_portAt_18
  · have c_1 : inB x (n 2) = true := b2i_t c_1
    obtain ⟨jx, hjx, rfl⟩ := inB_t c_1 (by omega)
    refine lv_aload_n hx hb dX2_portAt_8 rfl (lv_at hl 0 rfl) ?_
    refine va_get (D := (dC, dI)) (ci := 3) (v := .ref (a 15)) (C := RX2) (T := TX2) (N := 10) hx hb hts hinX2 hown hK hP 2 rfl rfl 5 (by decide) (hts (.fieldLink RX2 27 "RenameRows$Ring" "port" "[I") (by decide +kernel)) (fun _ h9 => h9) rfl dX2_portAt_9 ?_
    refine lv_iload_n hx hb dX2_portAt_12 rfl (lv_at hl 1 rfl) ?_
    refine ar_ld (D := (dC, dI)) (n := n 2) (f := f 15) hx hb hK hP 15 0 rfl rfl (by omega) (by omega) dX2_portAt_13 ?_
    refine lv_goto (tgt := 18) hx hb dX2_portAt_14 (by decide) ?_
    refine tp_eq (show _ = x_at 15 n f (nI jx) by first | (simp [x_at, c_1, cl32_nI (show jx < 2 ^ 31 by omega)]; done) | (simp [nI_0, x_at, c_1, cl32_nI (show jx < 2 ^ 31 by omega)]; done) | (simp [x_at, c_1, cl32_nI (show jx < 2 ^ 31 by omega)]; omega)) ?_
    exact rd_iret hx hb hr hlocks dX2_portAt_18

set_option maxHeartbeats 4000000 in
set_option maxRecDepth 100000 in
theorem c_X2_stateAt (l : Launch) (dC : Nat → ClassId) (dI : Nat → Nat → Nat) (cs : ClassId × ClassId) (a n : Nat → Nat) (f : Nat → Nat → Int32) (x : Int32) (hB : x_bd n)  : Met l yX2_stateAt wsX2_stateAt ({ frames := 1, cells := 0, slots := 0, locals := 21 }) (rdPc (dC, dI) vwCl (wX cs a n f) (tyl cs) [.ref (a 2), .int x]) (QcRead (x_at 16 n f x)) 0 0 (fun _ => False) := by
  refine rd_of (cc := cX2_stateAt) (maxL := 2) (ret := (some .int)) (own := RX2) (by decide) rfl rfl (Nat.le_of_ble_eq_true rfl) ?_
  intro p e s m below meth c hx hb hr hml hts hown hlocks hP hK ls hl
  have hl : lv_has ls 2 [(0, .ref (a 2)), (1, .int x)] := hl
  have hinX2 : ∀ w ∈ wsX20, w ∈ wsX2_stateAt := by decide +kernel
  obtain ⟨B1, B2, B3, B4, B5, B6, B7, B8, B9, B10, B11, B12, B13, B14, B15⟩ := id hB
  refine lv_aload_n hx hb dX2_stateAt_0 rfl (lv_at hl 0 rfl) ?_
  refine lv_iload_n hx hb dX2_stateAt_1 rfl (lv_at hl 1 rfl) ?_
  refine W.callR (W.runV (As := [.int x]) (rest := []) ⟨hx, hb, hml, hown, hts⟩ (c_X2_isPlace l dC dI cs a n f x hB) (cwV 1 hts gX2_stateAt_X2_isPlace rfl rfl rfl (by decide +kernel) ⟨Nat.le_of_ble_eq_true rfl, Nat.le_of_ble_eq_true rfl⟩) (rd_preV (q := (RX2, TX2, 10)) hP hK 2 rfl rfl) rfl rfl hl.1 rfl (lv_room (Nat.le_of_ble_eq_true rfl)) dX2_stateAt_2 ⟨Nat.zero_le _, Nat.zero_le _⟩) ?_
  refine W.eq (g2 := F0 m 5 ls (.int (b2i (inB x (n 2))) :: [])) rfl ?_
  refine lv_if_eq (tgt := 17) hx hb dX2_stateAt_5 (by decide) (fun c_1 => ?_) (fun c_1 => ?_)
  · have c_1 : inB x (n 2) = false := b2i_f c_1
    refine lv_iconst (v := (-1)) hx hb dX2_stateAt_17 (by decide) ?_
    refine tp_eq (show _ = x_at 16 n f x by first | (simp [x_at, c_1]; done) | (simp [nI_0, x_at, c_1]; done) | (simp [x_at, c_1]; omega)) ?_
    exact rd_iret hx hb hr hlocks dX2_stateAt_18
  · have c_1 : inB x (n 2) = true := b2i_t c_1
    obtain ⟨jx, hjx, rfl⟩ := inB_t c_1 (by omega)
    refine lv_aload_n hx hb dX2_stateAt_8 rfl (lv_at hl 0 rfl) ?_
    refine va_get (D := (dC, dI)) (ci := 3) (v := .ref (a 16)) (C := RX2) (T := TX2) (N := 10) hx hb hts hinX2 hown hK hP 2 rfl rfl 6 (by decide) (hts (.fieldLink RX2 30 "RenameRows$Ring" "state" "[I") (by decide +kernel)) (fun _ h9 => h9) rfl dX2_stateAt_9 ?_
    refine lv_iload_n hx hb dX2_stateAt_12 rfl (lv_at hl 1 rfl) ?_
    refine ar_ld (D := (dC, dI)) (n := n 2) (f := f 16) hx hb hK hP 16 0 rfl rfl (by omega) (by omega) dX2_stateAt_13 ?_
    refine lv_goto (tgt := 18) hx hb dX2_stateAt_14 (by decide) ?_
    refine tp_eq (show _ = x_at 16 n f (nI jx) by first | (simp [x_at, c_1, cl32_nI (show jx < 2 ^ 31 by omega)]; done) | (simp [nI_0, x_at, c_1, cl32_nI (show jx < 2 ^ 31 by omega)]; done) | (simp [x_at, c_1, cl32_nI (show jx < 2 ^ 31 by omega)]; omega)) ?_
    exact rd_iret hx hb hr hlocks dX2_stateAt_18
