set_option maxHeartbeats 4000000 in
set_option maxRecDepth 100000 in
theorem c_X0_takeLowest (l : Launch) (dC : Nat → ClassId) (dI : Nat → Nat → Nat) (cs : ClassId × ClassId) (a n : Nat → Nat) (f : Nat → Nat → Int32) (sz : Nat) (r : Nat) (hB : x_bd n)  : Met l yX0_takeLowest wsX0_takeLowest ({ frames := 2, cells := 0, slots := 0, locals := 43 }) (wrPc (dC, dI) vwCl (wX cs a n f) (tyl cs) sz [.ref (a 3), .int (nI r)]) (wrQ (dC, dI) vwCl (wX cs a (x_loN n f) (x_loF n f r)) (some (.int (x_lo n f))) (va_A (wX cs a n f) sz)) 0 0 (va_A (wX cs a n f) sz) := by
  refine wr_of (cc := cX0_takeLowest) (maxL := 3) (ret := (some .int)) (own := RX0) (by decide) rfl rfl (Nat.le_of_ble_eq_true rfl) ?_
  intro p e s m below meth c A hsz hAe hx hb hr hml hts hown hlocks hP hK hD hA hS ls hl
  have hl : lv_has ls 3 [(0, .ref (a 3)), (1, .int (nI r))] := hl
  have hinX0 : ∀ w ∈ wsX00, w ∈ wsX0_takeLowest := by decide +kernel
  obtain ⟨B1, B2, B3, B4, B5, B6, B7, B8, B9, B10, B11, B12, B13, B14, B15⟩ := id hB
  refine lv_iconst (v := nI 0) hx hb dX0_takeLowest_0 (by decide) ?_
  refine lv_istore_n (lv' := [(2, .int (nI 0)), (0, .ref (a 3)), (1, .int (nI r))]) hx hb dX0_takeLowest_1 rfl hl (by decide) rfl (fun ls hl => ?_)
  have key : ∀ (k t : Nat), t + k = 8 → x_lo n f = (if n 11 < 8 then x_lw n f k t else -1) → ∀ (H : Heap) (locs : List Loc), va_P (dC, dI) vwCl (wX cs a n f) H → va_D A (wX cs a n f) → va_S A s.heap H locs → ∀ ls : Array Slot, lv_has ls 3 [(2, .int (nI t)), (0, .ref (a 3)), (1, .int (nI r))] → W p l e ({ frames := 2, cells := 0, slots := 0, locals := 43 } : Room) s m ([.ref (a 3), .int (nI r)] : List Value).toArray below meth c H locs 0 0 (MQ below (wrQ (dC, dI) vwCl (wX cs a (x_loN n f) (x_loF n f r)) (some (.int (x_lo n f))) A) ([.ref (a 3), .int (nI r)] : List Value).toArray s 0 0 A) (F0 m 2 ls []) := by
    intro k
    induction k with
    | zero =>
      intro t ht hs H locs hP hD hS ls hl
      refine lv_iload_n hx hb dX0_takeLowest_2 rfl (lv_at hl 0 rfl) ?_
      refine lv_bipush (v := nI 8) hx hb dX0_takeLowest_3 (by decide) ?_
      refine lv_icmp_ge (tgt := 60) hx hb dX0_takeLowest_5 (by decide) (fun c_1 => ?_) (fun c_1 => absurd (nI_le (by omega) (by omega)) c_1)
      have c_1 : 8 ≤ t := (nI_leI (by omega) (by omega)).mp c_1
      refine lv_iconst (v := (-1)) hx hb dX0_takeLowest_60 (by decide) ?_
      have hP : va_P (dC, dI) vwCl (wX cs a (x_loN n f) (x_loF n f r)) H := by
        have e9 : (wX cs a n f) = (wX cs a (x_loN n f) (x_loF n f r)) := by first | (have e7 : x_lo n f = nI t := (by rw [hs]; simp [x_lw, B16, of_decide_eq_true c_1]); simp [x_loN, x_loF, e7, nI_m1 (show t < 2 ^ 31 by omega), cl32_nI (show t < 2 ^ 31 by omega)]; done) | (have e7 : x_lo n f = -1 := (by rw [hs]; simp [x_lw]; try omega); simp [x_loN, x_loF, e7]; done)
        rw [← e9]; exact hP
      refine tp_eq (show _ = x_lo n f by first | (have e7 : x_lo n f = nI t := (by rw [hs]; simp [x_lw, B16, of_decide_eq_true c_1]); simp [x_loN, x_loF, e7, nI_m1 (show t < 2 ^ 31 by omega), cl32_nI (show t < 2 ^ 31 by omega)]; done) | (have e7 : x_lo n f = -1 := (by rw [hs]; simp [x_lw]; try omega); simp [x_loN, x_loF, e7]; done)) ?_
      exact wr_iret hx hb hr hlocks hP hS dX0_takeLowest_61
    | succ k ih =>
      intro t ht hs H locs hP hD hS ls hl
      refine lv_iload_n hx hb dX0_takeLowest_2 rfl (lv_at hl 0 rfl) ?_
      refine lv_bipush (v := nI 8) hx hb dX0_takeLowest_3 (by decide) ?_
      refine lv_icmp_ge (tgt := 60) hx hb dX0_takeLowest_5 (by decide) (fun c_2 => absurd ((nI_leI (by omega) (by omega)).mp c_2) (by omega)) (fun c_2 => ?_)
      have c_2 : ¬ 8 ≤ t := fun q => c_2 ((nI_leI (by omega) (by omega)).mpr q)
      refine lv_aload_n hx hb dX0_takeLowest_8 rfl (lv_at hl 1 rfl) ?_
      refine va_get (D := (dC, dI)) (ci := 1) (v := .int (nI (n 11))) (C := RX0) (T := TX0) (N := 3) hx hb hts hinX0 hown hK hP 3 rfl rfl 2 (by decide) (hts (.fieldLink RX0 22 "RenameRows$Marks" "taken" "I") (by decide +kernel)) (fun _ h9 => h9) rfl dX0_takeLowest_9 ?_
      refine lv_bipush (v := nI 8) hx hb dX0_takeLowest_12 (by decide) ?_
      refine lv_icmp_ge (tgt := 60) hx hb dX0_takeLowest_14 (by decide) (fun c_3 => ?_) (fun c_3 => ?_)
      · have c_3 : 8 ≤ (n 11) := (nI_leI (by omega) (by omega)).mp c_3
        refine lv_iconst (v := (-1)) hx hb dX0_takeLowest_60 (by decide) ?_
        have hP : va_P (dC, dI) vwCl (wX cs a (x_loN n f) (x_loF n f r)) H := by
          have e9 : (wX cs a n f) = (wX cs a (x_loN n f) (x_loF n f r)) := by first | (have e7 : x_lo n f = nI t := (by rw [hs]; simp [x_lw, B16, of_decide_eq_true c_3]); simp [x_loN, x_loF, e7, nI_m1 (show t < 2 ^ 31 by omega), cl32_nI (show t < 2 ^ 31 by omega)]; done) | (have e7 : x_lo n f = -1 := (by rw [hs]; simp [x_lw]; try omega); simp [x_loN, x_loF, e7]; done)
          rw [← e9]; exact hP
        refine tp_eq (show _ = x_lo n f by first | (have e7 : x_lo n f = nI t := (by rw [hs]; simp [x_lw, B16, of_decide_eq_true c_3]); simp [x_loN, x_loF, e7, nI_m1 (show t < 2 ^ 31 by omega), cl32_nI (show t < 2 ^ 31 by omega)]; done) | (have e7 : x_lo n f = -1 := (by rw [hs]; simp [x_lw]; try omega); simp [x_loN, x_loF, e7]; done)) ?_
        exact wr_iret hx hb hr hlocks hP hS dX0_takeLowest_61
      · have c_3 : ¬ 8 ≤ (n 11) := fun q => c_3 ((nI_leI (by omega) (by omega)).mpr q)
        have B16 : n 11 < 8 := by omega
        refine lv_aload_n hx hb dX0_takeLowest_17 rfl (lv_at hl 1 rfl) ?_
        refine lv_iload_n hx hb dX0_takeLowest_18 rfl (lv_at hl 0 rfl) ?_
        refine W.callR (W.runV (As := [.int (nI t)]) (rest := []) ⟨hx, hb, hml, hown, hts⟩ (c_X0_isFree l dC dI cs a n f (nI t) hB) (cwV 1 hts gX0_takeLowest_X0_isFree rfl rfl rfl (by decide +kernel) ⟨Nat.le_of_ble_eq_true rfl, Nat.le_of_ble_eq_true rfl⟩) (rd_preV (q := (RX0, TX0, 3)) hP hK 3 rfl rfl) rfl rfl hl.1 rfl (lv_room (Nat.le_of_ble_eq_true rfl)) dX0_takeLowest_19 ⟨Nat.zero_le _, Nat.zero_le _⟩) ?_
        refine W.eq (g2 := F0 m 22 ls (.int (b2i (decide (x_turn n f (nI t) = -1))) :: [])) rfl ?_
        refine lv_if_eq (tgt := 54) hx hb dX0_takeLowest_22 (by decide) (fun c_4 => ?_) (fun c_4 => ?_)
        · have c_4 : decide (x_turn n f (nI t) = -1) = false := b2i_f c_4
          refine lv_iinc (v := nI (t + 1)) (lv' := [(2, .int (nI (t + 1))), (0, .ref (a 3)), (1, .int (nI r))]) hx hb dX0_takeLowest_54 hl (k := 0) rfl (nI_succ t).symm (by decide) rfl (fun ls hl => ?_)
          refine lv_goto (tgt := 2) hx hb dX0_takeLowest_57 (by decide) ?_
          exact ih (t + 1) (by omega) (by rw [hs]; simp [x_lw, of_decide_eq_false c_4]) H locs hP hD hS ls (lv_sub hl [0, 1, 2] rfl)
        · have c_4 : decide (x_turn n f (nI t) = -1) = true := b2i_t c_4
          refine lv_aload_n hx hb dX0_takeLowest_25 rfl (lv_at hl 1 rfl) ?_
          refine va_get (D := (dC, dI)) (ci := 1) (v := .ref (a 17)) (C := RX0) (T := TX0) (N := 3) hx hb hts hinX0 hown hK hP 3 rfl rfl 0 (by decide) (hts (.fieldLink RX0 9 "RenameRows$Marks" "before" "[I") (by decide +kernel)) (fun _ h9 => h9) rfl dX0_takeLowest_26 ?_
          refine lv_iload_n hx hb dX0_takeLowest_29 rfl (lv_at hl 0 rfl) ?_
          refine lv_iload_n hx hb dX0_takeLowest_30 rfl (lv_at hl 2 rfl) ?_
          refine ar_st (D := (dC, dI)) (n := 8) (f := f 17) hx hb hK hP hD hS 17 0 rfl rfl (by omega) (by omega) dX0_takeLowest_31 (fun H locs hP hD hS => ?_)
          have hP : va_P (dC, dI) vwCl (wX cs a n (uf f 17 (upd (f 17) t (nI r)))) H := hP
          have hD : va_D A (wX cs a n (uf f 17 (upd (f 17) t (nI r)))) := hD
          refine lv_aload_n hx hb dX0_takeLowest_32 rfl (lv_at hl 1 rfl) ?_
          refine va_get (D := (dC, dI)) (ci := 1) (v := .ref (a 18)) (C := RX0) (T := TX0) (N := 3) hx hb hts hinX0 hown hK hP 3 rfl rfl 1 (by decide) (hts (.fieldLink RX0 15 "RenameRows$Marks" "byTurn" "[I") (by decide +kernel)) (fun _ h9 => h9) rfl dX0_takeLowest_33 ?_
          refine lv_aload_n hx hb dX0_takeLowest_36 rfl (lv_at hl 1 rfl) ?_
          refine va_get (D := (dC, dI)) (ci := 1) (v := .int (nI (n 11))) (C := RX0) (T := TX0) (N := 3) hx hb hts hinX0 hown hK hP 3 rfl rfl 2 (by decide) (hts (.fieldLink RX0 22 "RenameRows$Marks" "taken" "I") (by decide +kernel)) (fun _ h9 => h9) rfl dX0_takeLowest_37 ?_
          refine lv_iload_n hx hb dX0_takeLowest_40 rfl (lv_at hl 0 rfl) ?_
          refine ar_st (D := (dC, dI)) (n := 8) (f := f 18) hx hb hK hP hD hS 18 0 rfl rfl (by omega) (by omega) dX0_takeLowest_41 (fun H locs hP hD hS => ?_)
          have hP : va_P (dC, dI) vwCl (wX cs a n (uf (uf f 17 (upd (f 17) t (nI r))) 18 (upd (f 18) (n 11) (nI t)))) H := hP
          have hD : va_D A (wX cs a n (uf (uf f 17 (upd (f 17) t (nI r))) 18 (upd (f 18) (n 11) (nI t)))) := hD
          refine lv_aload_n hx hb dX0_takeLowest_42 rfl (lv_at hl 1 rfl) ?_
          refine lv_dup hx hb dX0_takeLowest_43 rfl ?_
          refine va_get (D := (dC, dI)) (ci := 1) (v := .int (nI (n 11))) (C := RX0) (T := TX0) (N := 3) hx hb hts hinX0 hown hK hP 3 rfl rfl 2 (by decide) (hts (.fieldLink RX0 22 "RenameRows$Marks" "taken" "I") (by decide +kernel)) (fun _ h9 => h9) rfl dX0_takeLowest_44 ?_
          refine lv_iconst (v := nI 1) hx hb dX0_takeLowest_47 (by decide) ?_
          refine lv_iadd hx hb dX0_takeLowest_48 ?_
          refine tp_eq (nI_add (n 11) 1) ?_
          refine va_put (D := (dC, dI)) (ci := 1) (v := .int (nI ((n 11) + 1))) (ty := .int) (C := RX0) (T := TX0) (N := 3) hx hb hts hinX0 tyX0 tyX0_ok nmX0 hown hK hP hD hS 3 rfl rfl 2 (by decide) (hts (.fieldLink RX0 22 "RenameRows$Marks" "taken" "I") (by decide +kernel)) (fun _ h9 => h9) rfl (by decide +kernel) rfl rfl (Nat.le_of_ble_eq_true rfl) dX0_takeLowest_49 (fun H locs hP hD hS => ?_)
          have hP : va_P (dC, dI) vwCl (wX cs a (un n 11 ((n 11) + 1)) (uf (uf f 17 (upd (f 17) t (nI r))) 18 (upd (f 18) (n 11) (nI t)))) H := hP
          have hD : va_D A (wX cs a (un n 11 ((n 11) + 1)) (uf (uf f 17 (upd (f 17) t (nI r))) 18 (upd (f 18) (n 11) (nI t)))) := hD
          refine lv_iload_n hx hb dX0_takeLowest_52 rfl (lv_at hl 0 rfl) ?_
          have hP : va_P (dC, dI) vwCl (wX cs a (x_loN n f) (x_loF n f r)) H := by
            have e9 : (wX cs a (un n 11 ((n 11) + 1)) (uf (uf f 17 (upd (f 17) t (nI r))) 18 (upd (f 18) (n 11) (nI t)))) = (wX cs a (x_loN n f) (x_loF n f r)) := by first | (have e7 : x_lo n f = nI t := (by rw [hs]; simp [x_lw, B16, of_decide_eq_true c_4]); simp [x_loN, x_loF, e7, nI_m1 (show t < 2 ^ 31 by omega), cl32_nI (show t < 2 ^ 31 by omega)]; done) | (have e7 : x_lo n f = -1 := (by rw [hs]; simp [x_lw]; try omega); simp [x_loN, x_loF, e7]; done)
            rw [← e9]; exact hP
          refine tp_eq (show _ = x_lo n f by first | (have e7 : x_lo n f = nI t := (by rw [hs]; simp [x_lw, B16, of_decide_eq_true c_4]); simp [x_loN, x_loF, e7, nI_m1 (show t < 2 ^ 31 by omega), cl32_nI (show t < 2 ^ 31 by omega)]; done) | (have e7 : x_lo n f = -1 := (by rw [hs]; simp [x_lw]; try omega); simp [x_loN, x_loF, e7]; done)) ?_
          exact wr_iret hx hb hr hlocks hP hS dX0_takeLowest_53
  exact key 8 0 (by omega) rfl _ _ hP hD hS ls (lv_sub hl [0, 1, 2] rfl)

set_option maxHeartbeats 4000000 in
set_option maxRecDepth 100000 in
theorem c_X0_release (l : Launch) (dC : Nat → ClassId) (dI : Nat → Nat → Nat) (cs : ClassId × ClassId) (a n : Nat → Nat) (f : Nat → Nat → Int32) (sz : Nat) (x : Int32) (t : Nat) (ht : x_turn n f x = nI t) (hB : x_bd n) (h1 : t < n 11)  : Met l yX0_release wsX0_release ({ frames := 1, cells := 0, slots := 0, locals := 22 }) (wrPc (dC, dI) vwCl (wX cs a n f) (tyl cs) sz [.ref (a 3), .int x]) (wrQ (dC, dI) vwCl (wX cs a (un n 11 ((n 11) - 1)) (uf f 18 (x_sl (f 18) t (n 11 - 1)))) none (va_A (wX cs a n f) sz)) 0 0 (va_A (wX cs a n f) sz) := by
  refine wr_of (cc := cX0_release) (maxL := 4) (ret := none) (own := RX0) (by decide) rfl rfl (Nat.le_of_ble_eq_true rfl) ?_
  intro p e s m below meth c A hsz hAe hx hb hr hml hts hown hlocks hP hK hD hA hS ls hl
  have hl : lv_has ls 4 [(0, .ref (a 3)), (1, .int x)] := hl
  have hinX0 : ∀ w ∈ wsX00, w ∈ wsX0_release := by decide +kernel
  obtain ⟨B1, B2, B3, B4, B5, B6, B7, B8, B9, B10, B11, B12, B13, B14, B15⟩ := id hB
  refine lv_aload_n hx hb dX0_release_0 rfl (lv_at hl 0 rfl) ?_
  refine lv_iload_n hx hb dX0_release_1 rfl (lv_at hl 1 rfl) ?_
  refine W.callR (W.runV (As := [.int x]) (rest := []) ⟨hx, hb, hml, hown, hts⟩ (c_X0_turnOf l dC dI cs a n f x hB) (cwV 1 hts gX0_release_X0_turnOf rfl rfl rfl (by decide +kernel) ⟨Nat.le_of_ble_eq_true rfl, Nat.le_of_ble_eq_true rfl⟩) (rd_preV (q := (RX0, TX0, 3)) hP hK 3 rfl rfl) rfl rfl hl.1 rfl (lv_room (Nat.le_of_ble_eq_true rfl)) dX0_release_2 ⟨Nat.zero_le _, Nat.zero_le _⟩) ?_
  refine W.eq (g2 := F0 m 5 ls (.int (x_turn n f x) :: [])) rfl ?_
  refine tp_eq ht ?_
  refine lv_istore_n (lv' := [(2, .int (nI t)), (0, .ref (a 3)), (1, .int x)]) hx hb dX0_release_5 rfl hl (by decide) rfl (fun ls hl => ?_)
  refine lv_iload_n hx hb dX0_release_6 rfl (lv_at hl 0 rfl) ?_
  refine lv_iconst (v := (-1)) hx hb dX0_release_7 (by decide) ?_
  refine lv_icmp_ne (tgt := 12) hx hb dX0_release_8 (by decide) (fun c_1 => ?_) (fun c_1 => absurd c_1 (nI_m1 (by omega)))
  refine lv_iload_n hx hb dX0_release_12 rfl (lv_at hl 0 rfl) ?_
  refine lv_istore_n (lv' := [(3, .int (nI t)), (2, .int (nI t)), (0, .ref (a 3)), (1, .int x)]) hx hb dX0_release_13 rfl hl (by decide) rfl (fun ls hl => ?_)
  have hP : va_P (dC, dI) vwCl (wX cs a n (uf f 18 (x_sl (f 18) t t))) s.heap := by
    rw [x_sl_0]; exact hP
  have hD : va_D A (wX cs a n (uf f 18 (x_sl (f 18) t t))) := hD.same rfl
  have key : ∀ (k u : Nat), u + k = n 11 - 1 → t ≤ u → ∀ (H : Heap) (locs : List Loc), va_P (dC, dI) vwCl (wX cs a n (uf f 18 (x_sl (f 18) t u))) H → va_D A (wX cs a n (uf f 18 (x_sl (f 18) t u))) → va_S A s.heap H locs → ∀ ls : Array Slot, lv_has ls 4 [(3, .int (nI u)), (2, .int (nI t)), (0, .ref (a 3)), (1, .int x)] → W p l e ({ frames := 1, cells := 0, slots := 0, locals := 22 } : Room) s m ([.ref (a 3), .int x] : List Value).toArray below meth c H locs 0 0 (MQ below (wrQ (dC, dI) vwCl (wX cs a (un n 11 ((n 11) - 1)) (uf f 18 (x_sl (f 18) t (n 11 - 1)))) none A) ([.ref (a 3), .int x] : List Value).toArray s 0 0 A) (F0 m 14 ls []) := by
    intro k
    induction k with
    | zero =>
      intro u hu hu2 H locs hP hD hS ls hl
      refine lv_iload_n hx hb dX0_release_14 rfl (lv_at hl 0 rfl) ?_
      refine lv_iconst (v := nI 1) hx hb dX0_release_15 (by decide) ?_
      refine lv_iadd hx hb dX0_release_16 ?_
      refine tp_eq (nI_add u 1) ?_
      refine lv_aload_n hx hb dX0_release_17 rfl (lv_at hl 2 rfl) ?_
      refine va_get (D := (dC, dI)) (ci := 1) (v := .int (nI (n 11))) (C := RX0) (T := TX0) (N := 3) hx hb hts hinX0 hown hK hP 3 rfl rfl 2 (by decide) (hts (.fieldLink RX0 22 "RenameRows$Marks" "taken" "I") (by decide +kernel)) (fun _ h9 => h9) rfl dX0_release_18 ?_
      refine lv_icmp_ge (tgt := 44) hx hb dX0_release_21 (by decide) (fun c_2 => ?_) (fun c_2 => absurd (nI_le (by omega) (by omega)) c_2)
      have c_2 : (n 11) ≤ (u + 1) := (nI_leI (by omega) (by omega)).mp c_2
      have hu3 : u = n 11 - 1 := by omega
      refine lv_aload_n hx hb dX0_release_44 rfl (lv_at hl 2 rfl) ?_
      refine lv_dup hx hb dX0_release_45 rfl ?_
      refine va_get (D := (dC, dI)) (ci := 1) (v := .int (nI (n 11))) (C := RX0) (T := TX0) (N := 3) hx hb hts hinX0 hown hK hP 3 rfl rfl 2 (by decide) (hts (.fieldLink RX0 22 "RenameRows$Marks" "taken" "I") (by decide +kernel)) (fun _ h9 => h9) rfl dX0_release_46 ?_
      refine lv_iconst (v := nI 1) hx hb dX0_release_49 (by decide) ?_
      refine lv_isub hx hb dX0_release_50 ?_
      refine tp_eq (pk_sub (by omega)) ?_
      refine va_put (D := (dC, dI)) (ci := 1) (v := .int (nI ((n 11) - 1))) (ty := .int) (C := RX0) (T := TX0) (N := 3) hx hb hts hinX0 tyX0 tyX0_ok nmX0 hown hK hP hD hS 3 rfl rfl 2 (by decide) (hts (.fieldLink RX0 22 "RenameRows$Marks" "taken" "I") (by decide +kernel)) (fun _ h9 => h9) rfl (by decide +kernel) rfl rfl (Nat.le_of_ble_eq_true rfl) dX0_release_51 (fun H locs hP hD hS => ?_)
      have hP : va_P (dC, dI) vwCl (wX cs a (un n 11 ((n 11) - 1)) (uf f 18 (x_sl (f 18) t u))) H := hP
      have hD : va_D A (wX cs a (un n 11 ((n 11) - 1)) (uf f 18 (x_sl (f 18) t u))) := hD
      have hP : va_P (dC, dI) vwCl (wX cs a (un n 11 ((n 11) - 1)) (uf f 18 (x_sl (f 18) t (n 11 - 1)))) H := by
        have e9 : (wX cs a (un n 11 ((n 11) - 1)) (uf f 18 (x_sl (f 18) t u))) = (wX cs a (un n 11 ((n 11) - 1)) (uf f 18 (x_sl (f 18) t (n 11 - 1)))) := by rw [hu3]
        rw [← e9]; exact hP
      exact wr_vret hx hb hr hlocks hP hS dX0_release_54
    | succ k ih =>
      intro u hu hu2 H locs hP hD hS ls hl
      refine lv_iload_n hx hb dX0_release_14 rfl (lv_at hl 0 rfl) ?_
      refine lv_iconst (v := nI 1) hx hb dX0_release_15 (by decide) ?_
      refine lv_iadd hx hb dX0_release_16 ?_
      refine tp_eq (nI_add u 1) ?_
      refine lv_aload_n hx hb dX0_release_17 rfl (lv_at hl 2 rfl) ?_
      refine va_get (D := (dC, dI)) (ci := 1) (v := .int (nI (n 11))) (C := RX0) (T := TX0) (N := 3) hx hb hts hinX0 hown hK hP 3 rfl rfl 2 (by decide) (hts (.fieldLink RX0 22 "RenameRows$Marks" "taken" "I") (by decide +kernel)) (fun _ h9 => h9) rfl dX0_release_18 ?_
      refine lv_icmp_ge (tgt := 44) hx hb dX0_release_21 (by decide) (fun c_3 => absurd ((nI_leI (by omega) (by omega)).mp c_3) (by omega)) (fun c_3 => ?_)
      have c_3 : ¬ (n 11) ≤ (u + 1) := fun q => c_3 ((nI_leI (by omega) (by omega)).mpr q)
      refine lv_aload_n hx hb dX0_release_24 rfl (lv_at hl 2 rfl) ?_
      refine va_get (D := (dC, dI)) (ci := 1) (v := .ref (a 18)) (C := RX0) (T := TX0) (N := 3) hx hb hts hinX0 hown hK hP 3 rfl rfl 1 (by decide) (hts (.fieldLink RX0 15 "RenameRows$Marks" "byTurn" "[I") (by decide +kernel)) (fun _ h9 => h9) rfl dX0_release_25 ?_
      refine lv_iload_n hx hb dX0_release_28 rfl (lv_at hl 0 rfl) ?_
      refine lv_aload_n hx hb dX0_release_29 rfl (lv_at hl 2 rfl) ?_
      refine va_get (D := (dC, dI)) (ci := 1) (v := .ref (a 18)) (C := RX0) (T := TX0) (N := 3) hx hb hts hinX0 hown hK hP 3 rfl rfl 1 (by decide) (hts (.fieldLink RX0 15 "RenameRows$Marks" "byTurn" "[I") (by decide +kernel)) (fun _ h9 => h9) rfl dX0_release_30 ?_
      refine lv_iload_n hx hb dX0_release_33 rfl (lv_at hl 0 rfl) ?_
      refine lv_iconst (v := nI 1) hx hb dX0_release_34 (by decide) ?_
      refine lv_iadd hx hb dX0_release_35 ?_
      refine tp_eq (nI_add u 1) ?_
      refine ar_ld (D := (dC, dI)) (n := 8) (f := (x_sl (f 18) t u)) hx hb hK hP 18 0 rfl rfl (by omega) (by omega) dX0_release_36 ?_
      refine ar_st (D := (dC, dI)) (n := 8) (f := (x_sl (f 18) t u)) hx hb hK hP hD hS 18 0 rfl rfl (by omega) (by omega) dX0_release_37 (fun H locs hP hD hS => ?_)
      have hP : va_P (dC, dI) vwCl (wX cs a n (uf (uf f 18 (x_sl (f 18) t u)) 18 (upd (x_sl (f 18) t u) u ((x_sl (f 18) t u) (u + 1))))) H := hP
      have hD : va_D A (wX cs a n (uf (uf f 18 (x_sl (f 18) t u)) 18 (upd (x_sl (f 18) t u) u ((x_sl (f 18) t u) (u + 1))))) := hD
      have hP : va_P (dC, dI) vwCl (wX cs a n (uf f 18 (x_sl (f 18) t (u + 1)))) H := by
        rw [← x_sl_s (f 18) (show t ≤ u by omega)]; exact hP
      have hD : va_D A (wX cs a n (uf f 18 (x_sl (f 18) t (u + 1)))) := hD.same rfl
      refine lv_iinc (v := nI (u + 1)) (lv' := [(3, .int (nI (u + 1))), (2, .int (nI t)), (0, .ref (a 3)), (1, .int x)]) hx hb dX0_release_38 hl (k := 0) rfl (nI_succ u).symm (by decide) rfl (fun ls hl => ?_)
      refine lv_goto (tgt := 14) hx hb dX0_release_41 (by decide) ?_
      exact ih (u + 1) (by omega) (by omega) H locs hP hD hS ls (lv_sub hl [0, 1, 2, 3] rfl)
  exact key (n 11 - 1 - t) t (by omega) (by omega) _ _ hP hD hS ls (lv_sub hl [0, 1, 2, 3] rfl)

set_option maxHeartbeats 4000000 in
set_option maxRecDepth 100000 in
theorem c_X0_releaseFrom (l : Launch) (dC : Nat → ClassId) (dI : Nat → Nat → Nat) (cs : ClassId × ClassId) (a n : Nat → Nat) (f : Nat → Nat → Int32) (sz : Nat) (x : Int32) (t : Nat) (ht : x_turn n f x = nI t) (hB : x_bd n) (h1 : t < n 11)  : Met l yX0_releaseFrom wsX0_releaseFrom ({ frames := 1, cells := 0, slots := 0, locals := 22 }) (wrPc (dC, dI) vwCl (wX cs a n f) (tyl cs) sz [.ref (a 3), .int x]) (wrQ (dC, dI) vwCl (wX cs a (un n 11 (t)) f) none (va_A (wX cs a n f) sz)) 0 0 (va_A (wX cs a n f) sz) := by
  refine wr_of (cc := cX0_releaseFrom) (maxL := 3) (ret := none) (own := RX0) (by decide) rfl rfl (Nat.le_of_ble_eq_true rfl) ?_
  intro p e s m below meth c A hsz hAe hx hb hr hml hts hown hlocks hP hK hD hA hS ls hl
  have hl : lv_has ls 3 [(0, .ref (a 3)), (1, .int x)] := hl
  have hinX0 : ∀ w ∈ wsX00, w ∈ wsX0_releaseFrom := by decide +kernel
  obtain ⟨B1, B2, B3, B4, B5, B6, B7, B8, B9, B10, B11, B12, B13, B14, B15⟩ := id hB
  refine lv_aload_n hx hb dX0_releaseFrom_0 rfl (lv_at hl 0 rfl) ?_
  refine lv_iload_n hx hb dX0_releaseFrom_1 rfl (lv_at hl 1 rfl) ?_
  refine W.callR (W.runV (As := [.int x]) (rest := []) ⟨hx, hb, hml, hown, hts⟩ (c_X0_turnOf l dC dI cs a n f x hB) (cwV 1 hts gX0_releaseFrom_X0_turnOf rfl rfl rfl (by decide +kernel) ⟨Nat.le_of_ble_eq_true rfl, Nat.le_of_ble_eq_true rfl⟩) (rd_preV (q := (RX0, TX0, 3)) hP hK 3 rfl rfl) rfl rfl hl.1 rfl (lv_room (Nat.le_of_ble_eq_true rfl)) dX0_releaseFrom_2 ⟨Nat.zero_le _, Nat.zero_le _⟩) ?_
  refine W.eq (g2 := F0 m 5 ls (.int (x_turn n f x) :: [])) rfl ?_
  refine tp_eq ht ?_
  refine lv_istore_n (lv' := [(2, .int (nI t)), (0, .ref (a 3)), (1, .int x)]) hx hb dX0_releaseFrom_5 rfl hl (by decide) rfl (fun ls hl => ?_)
  refine lv_iload_n hx hb dX0_releaseFrom_6 rfl (lv_at hl 0 rfl) ?_
  refine lv_iconst (v := (-1)) hx hb dX0_releaseFrom_7 (by decide) ?_
  refine lv_icmp_eq (tgt := 16) hx hb dX0_releaseFrom_8 (by decide) (fun c_1 => absurd c_1 (nI_m1 (by omega))) (fun c_1 => ?_)
  refine lv_aload_n hx hb dX0_releaseFrom_11 rfl (lv_at hl 1 rfl) ?_
  refine lv_iload_n hx hb dX0_releaseFrom_12 rfl (lv_at hl 0 rfl) ?_
  refine va_put (D := (dC, dI)) (ci := 1) (v := .int (nI t)) (ty := .int) (C := RX0) (T := TX0) (N := 3) hx hb hts hinX0 tyX0 tyX0_ok nmX0 hown hK hP hD hS 3 rfl rfl 2 (by decide) (hts (.fieldLink RX0 22 "RenameRows$Marks" "taken" "I") (by decide +kernel)) (fun _ h9 => h9) rfl (by decide +kernel) rfl rfl (Nat.le_of_ble_eq_true rfl) dX0_releaseFrom_13 (fun H locs hP hD hS => ?_)
  have hP : va_P (dC, dI) vwCl (wX cs a (un n 11 (t)) f) H := hP
  have hD : va_D A (wX cs a (un n 11 (t)) f) := hD
  exact wr_vret hx hb hr hlocks hP hS dX0_releaseFrom_16
