def m_aF (g : Nat → Nat) (h : Nat → Nat → Int32) (ra rb rg rk rt rs : Int32) : Nat → Nat → Int32 :=
  uf (uf (uf (uf (uf (uf (uf h 12 (upd (h 12) (g 10) ra)) 13 (upd (h 13) (g 10) rb)) 14 (upd (h 14) (g 10) rg)) 15 (upd (h 15) (g 10) rk)) 16 (upd (h 16) (g 10) rt)) 17 (upd (h 17) (g 10) (nI 0))) 18 (upd (h 18) (g 10) rs)
def m_sh (h : Nat → Nat → Int32) (k : Nat) : Nat → Nat → Int32 :=
  uf (uf (uf (uf (uf (uf (uf h 12 (x_sl (h 12) 0 k)) 13 (x_sl (h 13) 0 k)) 14 (x_sl (h 14) 0 k)) 15 (x_sl (h 15) 0 k)) 16 (x_sl (h 16) 0 k)) 17 (x_sl (h 17) 0 k)) 18 (x_sl (h 18) 0 k)
theorem m_gN_o {g : Nat → Nat} {h : Nat → Nat → Int32} {q k : Nat} (hk : k ≠ 9) : m_gN g h q k = g k := by
  unfold m_gN
  split
  · exact un_n hk
  · rfl
theorem m_gF_o {g : Nat → Nat} {h : Nat → Nat → Int32} {q k : Nat} (hk : k ≠ 6) (h2 : k ≠ 8) : m_gF g h q k = h k := by
  unfold m_gF
  split
  · rw [uf_n h2, uf_n hk]
  · exact uf_n hk
theorem m_gN_9 {g : Nat → Nat} {h : Nat → Nat → Int32} {q : Nat} : m_gN g h q 9 = g 9 ∨ m_gN g h q 9 = g 9 + 1 := by
  unfold m_gN
  split
  · exact Or.inr un_s
  · exact Or.inl rfl
theorem m_gN_bd {g : Nat → Nat} {h : Nat → Nat → Int32} {q : Nat} (hB : m_bd g) (h9 : g 9 < 96) : m_bd (m_gN g h q) := by
  have h8 := m_gN_9 (g := g) (h := h) (q := q)
  unfold m_bd at hB ⊢
  rw [m_gN_o (k := 0) (by decide), m_gN_o (k := 1) (by decide), m_gN_o (k := 2) (by decide), m_gN_o (k := 3) (by decide), m_gN_o (k := 10) (by decide), m_gN_o (k := 11) (by decide), m_gN_o (k := 22) (by decide), m_gN_o (k := 23) (by decide), m_gN_o (k := 25) (by decide), m_gN_o (k := 26) (by decide), m_gN_o (k := 27) (by decide), m_gN_o (k := 28) (by decide)]
  omega

set_option maxHeartbeats 4000000 in
set_option maxRecDepth 100000 in
theorem c_X4_throwing (l : Launch) (dC : Nat → ClassId) (dI : Nat → Nat → Nat) (cs : ClassId × ClassId) (b g : Nat → Nat) (h : Nat → Nat → Int32) (sz : Nat) (ta tb tc : Nat) (hB : m_bd g) (h1 : ta ≤ 1) (h2 : tb ≤ 1) (h3 : tc ≤ 1)  : Met l yX4_throwing wsX4_throwing ({ frames := 0, cells := 0, slots := 0, locals := 0 }) (wrPc (dC, dI) vwCl (wM cs b g h) (tyl cs) sz [.ref (b 0), .int (nI ta), .int (nI tb), .int (nI tc)]) (wrQ (dC, dI) vwCl (wM cs b (un g 0 (m_th ta tb tc)) h) (some (.int (b2i (decide (0 < m_tr ta tb tc))))) (va_A (wM cs b g h) sz)) 0 0 (va_A (wM cs b g h) sz) := by
  refine wr_of (cc := cX4_throwing) (maxL := 4) (ret := (some .boolean)) (own := RX4) (by decide) rfl rfl (Nat.le_of_ble_eq_true rfl) ?_
  intro p e s m below meth c A hsz hAe hx hb hr hml hts hown hlocks hP hK hD hA hS ls hl
  have hl : lv_has ls 4 [(0, .ref (b 0)), (1, .int (nI ta)), (2, .int (nI tb)), (3, .int (nI tc))] := hl
  have hinX4 : ∀ w ∈ wsX40, w ∈ wsX4_throwing := by decide +kernel
  obtain ⟨M1, M2, M3, M4, M5, M6, M7, M8, M9, M10, M11, M12, M13, M14, M15, M16⟩ := id hB
  refine lv_aload_n hx hb dX4_throwing_0 rfl (lv_at hl 0 rfl) ?_
  refine lv_iload_n hx hb dX4_throwing_1 rfl (lv_at hl 1 rfl) ?_
  refine lv_if_eq (tgt := 9) hx hb dX4_throwing_2 (by decide) (fun c_1 => ?_) (fun c_1 => ?_)
  · have c_1 : ta = 0 := (nI_z (by omega)).mp c_1
    refine lv_iload_n hx hb dX4_throwing_9 rfl (lv_at hl 2 rfl) ?_
    refine lv_if_eq (tgt := 17) hx hb dX4_throwing_10 (by decide) (fun c_2 => ?_) (fun c_2 => ?_)
    · have c_2 : tb = 0 := (nI_z (by omega)).mp c_2
      refine lv_iload_n hx hb dX4_throwing_17 rfl (lv_at hl 3 rfl) ?_
      refine lv_if_eq (tgt := 25) hx hb dX4_throwing_18 (by decide) (fun c_3 => ?_) (fun c_3 => ?_)
      · have c_3 : tc = 0 := (nI_z (by omega)).mp c_3
        refine lv_iconst (v := nI 0) hx hb dX4_throwing_25 (by decide) ?_
        refine va_put (D := (dC, dI)) (ci := 5) (v := .int (nI 0)) (ty := .int) (C := RX4) (T := TX4) (N := 29) hx hb hts hinX4 tyX4 tyX4_ok nmX4 hown hK hP hD hS 0 rfl rfl 0 (by decide) (hts (.fieldLink RX4 76 "RenameRowsModel" "thrown" "I") (by decide +kernel)) (fun _ h9 => h9) rfl (by decide +kernel) rfl rfl (Nat.le_of_ble_eq_true rfl) dX4_throwing_26 (fun H locs hP hD hS => ?_)
        have hP : va_P (dC, dI) vwCl (wM cs b (un g 0 0) h) H := hP
        have hD : va_D A (wM cs b (un g 0 0) h) := hD
        refine lv_aload_n hx hb dX4_throwing_29 rfl (lv_at hl 0 rfl) ?_
        refine va_get (D := (dC, dI)) (ci := 5) (v := .int (nI 0)) (C := RX4) (T := TX4) (N := 29) hx hb hts hinX4 hown hK hP 0 rfl rfl 0 (by decide) (hts (.fieldLink RX4 76 "RenameRowsModel" "thrown" "I") (by decide +kernel)) (fun _ h9 => h9) rfl dX4_throwing_30 ?_
        refine lv_if_le (tgt := 40) hx hb dX4_throwing_33 (by decide) (fun _ => ?_) (fun c => absurd (by decide) c)
        refine lv_iconst (v := nI 0) hx hb dX4_throwing_40 (by decide) ?_
        have hP : va_P (dC, dI) vwCl (wM cs b (un g 0 (m_th ta tb tc)) h) H := by
          have e9 : (wM cs b (un g 0 0) h) = (wM cs b (un g 0 (m_th ta tb tc)) h) := by simp [m_th, m_tr, c_1, c_2, c_3]
          rw [← e9]; exact hP
        refine tp_eq (show _ = b2i (decide (0 < m_tr ta tb tc)) by simp [m_th, m_tr, c_1, c_2, c_3, b2i]; first | done | rfl | decide) ?_
        exact wr_zret hx hb hr hlocks hP hS dX4_throwing_41
      · have c_3 : ¬ tc = 0 := fun q => c_3 ((nI_z (by omega)).mpr q)
        refine lv_iconst (v := nI 3) hx hb dX4_throwing_21 (by decide) ?_
        refine lv_goto (tgt := 26) hx hb dX4_throwing_22 (by decide) ?_
        refine va_put (D := (dC, dI)) (ci := 5) (v := .int (nI 3)) (ty := .int) (C := RX4) (T := TX4) (N := 29) hx hb hts hinX4 tyX4 tyX4_ok nmX4 hown hK hP hD hS 0 rfl rfl 0 (by decide) (hts (.fieldLink RX4 76 "RenameRowsModel" "thrown" "I") (by decide +kernel)) (fun _ h9 => h9) rfl (by decide +kernel) rfl rfl (Nat.le_of_ble_eq_true rfl) dX4_throwing_26 (fun H locs hP hD hS => ?_)
        have hP : va_P (dC, dI) vwCl (wM cs b (un g 0 3) h) H := hP
        have hD : va_D A (wM cs b (un g 0 3) h) := hD
        refine lv_aload_n hx hb dX4_throwing_29 rfl (lv_at hl 0 rfl) ?_
        refine va_get (D := (dC, dI)) (ci := 5) (v := .int (nI 3)) (C := RX4) (T := TX4) (N := 29) hx hb hts hinX4 hown hK hP 0 rfl rfl 0 (by decide) (hts (.fieldLink RX4 76 "RenameRowsModel" "thrown" "I") (by decide +kernel)) (fun _ h9 => h9) rfl dX4_throwing_30 ?_
        refine lv_if_le (tgt := 40) hx hb dX4_throwing_33 (by decide) (fun c => absurd c (by decide)) (fun _ => ?_)
        refine lv_iconst (v := nI 1) hx hb dX4_throwing_36 (by decide) ?_
        refine lv_goto (tgt := 41) hx hb dX4_throwing_37 (by decide) ?_
        have hP : va_P (dC, dI) vwCl (wM cs b (un g 0 (m_th ta tb tc)) h) H := by
          have e9 : (wM cs b (un g 0 3) h) = (wM cs b (un g 0 (m_th ta tb tc)) h) := by simp [m_th, m_tr, c_1, c_2, c_3]
          rw [← e9]; exact hP
        refine tp_eq (show _ = b2i (decide (0 < m_tr ta tb tc)) by simp [m_th, m_tr, c_1, c_2, c_3, b2i]; first | done | rfl | decide) ?_
        exact wr_zret hx hb hr hlocks hP hS dX4_throwing_41
    · have c_2 : ¬ tb = 0 := fun q => c_2 ((nI_z (by omega)).mpr q)
      refine lv_iconst (v := nI 2) hx hb dX4_throwing_13 (by decide) ?_
      refine lv_goto (tgt := 26) hx hb dX4_throwing_14 (by decide) ?_
      refine va_put (D := (dC, dI)) (ci := 5) (v := .int (nI 2)) (ty := .int) (C := RX4) (T := TX4) (N := 29) hx hb hts hinX4 tyX4 tyX4_ok nmX4 hown hK hP hD hS 0 rfl rfl 0 (by decide) (hts (.fieldLink RX4 76 "RenameRowsModel" "thrown" "I") (by decide +kernel)) (fun _ h9 => h9) rfl (by decide +kernel) rfl rfl (Nat.le_of_ble_eq_true rfl) dX4_throwing_26 (fun H locs hP hD hS => ?_)
      have hP : va_P (dC, dI) vwCl (wM cs b (un g 0 2) h) H := hP
      have hD : va_D A (wM cs b (un g 0 2) h) := hD
      refine lv_aload_n hx hb dX4_throwing_29 rfl (lv_at hl 0 rfl) ?_
      refine va_get (D := (dC, dI)) (ci := 5) (v := .int (nI 2)) (C := RX4) (T := TX4) (N := 29) hx hb hts hinX4 hown hK hP 0 rfl rfl 0 (by decide) (hts (.fieldLink RX4 76 "RenameRowsModel" "thrown" "I") (by decide +kernel)) (fun _ h9 => h9) rfl dX4_throwing_30 ?_
      refine lv_if_le (tgt := 40) hx hb dX4_throwing_33 (by decide) (fun c => absurd c (by decide)) (fun _ => ?_)
      refine lv_iconst (v := nI 1) hx hb dX4_throwing_36 (by decide) ?_
      refine lv_goto (tgt := 41) hx hb dX4_throwing_37 (by decide) ?_
      have hP : va_P (dC, dI) vwCl (wM cs b (un g 0 (m_th ta tb tc)) h) H := by
        have e9 : (wM cs b (un g 0 2) h) = (wM cs b (un g 0 (m_th ta tb tc)) h) := by simp [m_th, m_tr, c_1, c_2]
        rw [← e9]; exact hP
      refine tp_eq (show _ = b2i (decide (0 < m_tr ta tb tc)) by simp [m_th, m_tr, c_1, c_2, b2i]; first | done | rfl | decide) ?_
      exact wr_zret hx hb hr hlocks hP hS dX4_throwing_41
  · have c_1 : ¬ ta = 0 := fun q => c_1 ((nI_z (by omega)).mpr q)
    refine lv_iconst (v := nI 1) hx hb dX4_throwing_5 (by decide) ?_
    refine lv_goto (tgt := 26) hx hb dX4_throwing_6 (by decide) ?_
    refine va_put (D := (dC, dI)) (ci := 5) (v := .int (nI 1)) (ty := .int) (C := RX4) (T := TX4) (N := 29) hx hb hts hinX4 tyX4 tyX4_ok nmX4 hown hK hP hD hS 0 rfl rfl 0 (by decide) (hts (.fieldLink RX4 76 "RenameRowsModel" "thrown" "I") (by decide +kernel)) (fun _ h9 => h9) rfl (by decide +kernel) rfl rfl (Nat.le_of_ble_eq_true rfl) dX4_throwing_26 (fun H locs hP hD hS => ?_)
    have hP : va_P (dC, dI) vwCl (wM cs b (un g 0 1) h) H := hP
    have hD : va_D A (wM cs b (un g 0 1) h) := hD
    refine lv_aload_n hx hb dX4_throwing_29 rfl (lv_at hl 0 rfl) ?_
    refine va_get (D := (dC, dI)) (ci := 5) (v := .int (nI 1)) (C := RX4) (T := TX4) (N := 29) hx hb hts hinX4 hown hK hP 0 rfl rfl 0 (by decide) (hts (.fieldLink RX4 76 "RenameRowsModel" "thrown" "I") (by decide +kernel)) (fun _ h9 => h9) rfl dX4_throwing_30 ?_
    refine lv_if_le (tgt := 40) hx hb dX4_throwing_33 (by decide) (fun c => absurd c (by decide)) (fun _ => ?_)
    refine lv_iconst (v := nI 1) hx hb dX4_throwing_36 (by decide) ?_
    refine lv_goto (tgt := 41) hx hb dX4_throwing_37 (by decide) ?_
    have hP : va_P (dC, dI) vwCl (wM cs b (un g 0 (m_th ta tb tc)) h) H := by
      have e9 : (wM cs b (un g 0 1) h) = (wM cs b (un g 0 (m_th ta tb tc)) h) := by simp [m_th, m_tr, c_1]
      rw [← e9]; exact hP
    refine tp_eq (show _ = b2i (decide (0 < m_tr ta tb tc)) by simp [m_th, m_tr, c_1, b2i]; first | done | rfl | decide) ?_
    exact wr_zret hx hb hr hlocks hP hS dX4_throwing_41

set_option maxHeartbeats 4000000 in
set_option maxRecDepth 100000 in
theorem c_X4_giveBack (l : Launch) (dC : Nat → ClassId) (dI : Nat → Nat → Nat) (cs : ClassId × ClassId) (b g : Nat → Nat) (h : Nat → Nat → Int32) (sz : Nat) (q : Nat) (hB : m_bd g) (h1 : q < 96) (h2 : g 9 < 96)  : Met l yX4_giveBack wsX4_giveBack ({ frames := 0, cells := 0, slots := 0, locals := 0 }) (wrPc (dC, dI) vwCl (wM cs b g h) (tyl cs) sz [.ref (b 0), .int (nI q)]) (wrQ (dC, dI) vwCl (wM cs b (m_gN g h q) (m_gF g h q)) none (va_A (wM cs b g h) sz)) 0 0 (va_A (wM cs b g h) sz) := by
  refine wr_of (cc := cX4_giveBack) (maxL := 2) (ret := none) (own := RX4) (by decide) rfl rfl (Nat.le_of_ble_eq_true rfl) ?_
  intro p e s m below meth c A hsz hAe hx hb hr hml hts hown hlocks hP hK hD hA hS ls hl
  have hl : lv_has ls 2 [(0, .ref (b 0)), (1, .int (nI q))] := hl
  have hinX4 : ∀ w ∈ wsX40, w ∈ wsX4_giveBack := by decide +kernel
  obtain ⟨M1, M2, M3, M4, M5, M6, M7, M8, M9, M10, M11, M12, M13, M14, M15, M16⟩ := id hB
  refine lv_aload_n hx hb dX4_giveBack_0 rfl (lv_at hl 0 rfl) ?_
  refine va_get (D := (dC, dI)) (ci := 5) (v := .ref (b 6)) (C := RX4) (T := TX4) (N := 29) hx hb hts hinX4 hown hK hP 0 rfl rfl 6 (by decide) (hts (.fieldLink RX4 16 "RenameRowsModel" "shares" "[I") (by decide +kernel)) (fun _ h9 => h9) rfl dX4_giveBack_1 ?_
  refine lv_iload_n hx hb dX4_giveBack_4 rfl (lv_at hl 1 rfl) ?_
  refine lv_dup2_11 hx hb dX4_giveBack_5 rfl rfl ?_
  refine ar_ld (D := (dC, dI)) (n := 96) (f := h 6) hx hb hK hP 3 0 rfl rfl (by omega) (by omega) dX4_giveBack_6 ?_
  refine lv_iconst (v := nI 1) hx hb dX4_giveBack_7 (by decide) ?_
  refine lv_isub hx hb dX4_giveBack_8 ?_
  refine ar_st (D := (dC, dI)) (n := 96) (f := h 6) hx hb hK hP hD hS 3 0 rfl rfl (by omega) (by omega) dX4_giveBack_9 (fun H locs hP hD hS => ?_)
  have hP : va_P (dC, dI) vwCl (wM cs b g (uf h 6 (upd (h 6) q ((h 6 q) - nI 1)))) H := hP
  have hD : va_D A (wM cs b g (uf h 6 (upd (h 6) q ((h 6 q) - nI 1)))) := hD
  refine lv_aload_n hx hb dX4_giveBack_10 rfl (lv_at hl 0 rfl) ?_
  refine va_get (D := (dC, dI)) (ci := 5) (v := .ref (b 6)) (C := RX4) (T := TX4) (N := 29) hx hb hts hinX4 hown hK hP 0 rfl rfl 6 (by decide) (hts (.fieldLink RX4 16 "RenameRowsModel" "shares" "[I") (by decide +kernel)) (fun _ h9 => h9) rfl dX4_giveBack_11 ?_
  refine lv_iload_n hx hb dX4_giveBack_14 rfl (lv_at hl 1 rfl) ?_
  refine ar_ld (D := (dC, dI)) (n := 96) (f := (upd (h 6) q ((h 6 q) - nI 1))) hx hb hK hP 3 0 rfl rfl (by omega) (by omega) dX4_giveBack_15 ?_
  refine lv_if_le (tgt := 20) hx hb dX4_giveBack_16 (by decide) (fun c_1 => ?_) (fun c_1 => ?_)
  · rw [pk_us] at c_1
    refine lv_aload_n hx hb dX4_giveBack_20 rfl (lv_at hl 0 rfl) ?_
    refine va_get (D := (dC, dI)) (ci := 5) (v := .ref (b 8)) (C := RX4) (T := TX4) (N := 29) hx hb hts hinX4 hown hK hP 0 rfl rfl 8 (by decide) (hts (.fieldLink RX4 23 "RenameRowsModel" "queue" "[I") (by decide +kernel)) (fun _ h9 => h9) rfl dX4_giveBack_21 ?_
    refine lv_aload_n hx hb dX4_giveBack_24 rfl (lv_at hl 0 rfl) ?_
    refine va_get (D := (dC, dI)) (ci := 5) (v := .int (nI (g 9))) (C := RX4) (T := TX4) (N := 29) hx hb hts hinX4 hown hK hP 0 rfl rfl 9 (by decide) (hts (.fieldLink RX4 73 "RenameRowsModel" "free" "I") (by decide +kernel)) (fun _ h9 => h9) rfl dX4_giveBack_25 ?_
    refine lv_iload_n hx hb dX4_giveBack_28 rfl (lv_at hl 1 rfl) ?_
    refine ar_st (D := (dC, dI)) (n := 96) (f := h 8) hx hb hK hP hD hS 5 0 rfl rfl (by omega) (by omega) dX4_giveBack_29 (fun H locs hP hD hS => ?_)
    have hP : va_P (dC, dI) vwCl (wM cs b g (uf (uf h 6 (upd (h 6) q ((h 6 q) - nI 1))) 8 (upd (h 8) (g 9) (nI q)))) H := hP
    have hD : va_D A (wM cs b g (uf (uf h 6 (upd (h 6) q ((h 6 q) - nI 1))) 8 (upd (h 8) (g 9) (nI q)))) := hD
    refine lv_aload_n hx hb dX4_giveBack_30 rfl (lv_at hl 0 rfl) ?_
    refine lv_dup hx hb dX4_giveBack_31 rfl ?_
    refine va_get (D := (dC, dI)) (ci := 5) (v := .int (nI (g 9))) (C := RX4) (T := TX4) (N := 29) hx hb hts hinX4 hown hK hP 0 rfl rfl 9 (by decide) (hts (.fieldLink RX4 73 "RenameRowsModel" "free" "I") (by decide +kernel)) (fun _ h9 => h9) rfl dX4_giveBack_32 ?_
    refine lv_iconst (v := nI 1) hx hb dX4_giveBack_35 (by decide) ?_
    refine lv_iadd hx hb dX4_giveBack_36 ?_
    refine tp_eq (nI_add (g 9) 1) ?_
    refine va_put (D := (dC, dI)) (ci := 5) (v := .int (nI ((g 9) + 1))) (ty := .int) (C := RX4) (T := TX4) (N := 29) hx hb hts hinX4 tyX4 tyX4_ok nmX4 hown hK hP hD hS 0 rfl rfl 9 (by decide) (hts (.fieldLink RX4 73 "RenameRowsModel" "free" "I") (by decide +kernel)) (fun _ h9 => h9) rfl (by decide +kernel) rfl rfl (Nat.le_of_ble_eq_true rfl) dX4_giveBack_37 (fun H locs hP hD hS => ?_)
    have hP : va_P (dC, dI) vwCl (wM cs b (un g 9 ((g 9) + 1)) (uf (uf h 6 (upd (h 6) q ((h 6 q) - nI 1))) 8 (upd (h 8) (g 9) (nI q)))) H := hP
    have hD : va_D A (wM cs b (un g 9 ((g 9) + 1)) (uf (uf h 6 (upd (h 6) q ((h 6 q) - nI 1))) 8 (upd (h 8) (g 9) (nI q)))) := hD
    have hP : va_P (dC, dI) vwCl (wM cs b (m_gN g h q) (m_gF g h q)) H := by
      have e9 : (wM cs b (un g 9 ((g 9) + 1)) (uf (uf h 6 (upd (h 6) q ((h 6 q) - nI 1))) 8 (upd (h 8) (g 9) (nI q)))) = (wM cs b (m_gN g h q) (m_gF g h q)) := by simp [m_gN, m_gF, c_1]
      rw [← e9]; exact hP
    exact wr_vret hx hb hr hlocks hP hS dX4_giveBack_40
  · rw [pk_us] at c_1
    have hP : va_P (dC, dI) vwCl (wM cs b (m_gN g h q) (m_gF g h q)) H := by
      have e9 : (wM cs b g (uf h 6 (upd (h 6) q ((h 6 q) - nI 1)))) = (wM cs b (m_gN g h q) (m_gF g h q)) := by simp [m_gN, m_gF, c_1]
      rw [← e9]; exact hP
    exact wr_vret hx hb hr hlocks hP hS dX4_giveBack_19

set_option maxHeartbeats 4000000 in
set_option maxRecDepth 100000 in
theorem c_X4_drop (l : Launch) (dC : Nat → ClassId) (dI : Nat → Nat → Nat) (cs : ClassId × ClassId) (b g : Nat → Nat) (h : Nat → Nat → Int32) (sz : Nat) (j : Nat) (hB : m_bd g) (h1 : j < 8) (h2 : 0 < g 23)  : Met l yX4_drop wsX4_drop ({ frames := 0, cells := 0, slots := 0, locals := 0 }) (wrPc (dC, dI) vwCl (wM cs b g h) (tyl cs) sz [.ref (b 0), .int (nI j)]) (wrQ (dC, dI) vwCl (wM cs b (un g 23 ((g 23) - 1)) (uf h 19 (upd (h 19) j (nI 0)))) none (va_A (wM cs b g h) sz)) 0 0 (va_A (wM cs b g h) sz) := by
  refine wr_of (cc := cX4_drop) (maxL := 2) (ret := none) (own := RX4) (by decide) rfl rfl (Nat.le_of_ble_eq_true rfl) ?_
  intro p e s m below meth c A hsz hAe hx hb hr hml hts hown hlocks hP hK hD hA hS ls hl
  have hl : lv_has ls 2 [(0, .ref (b 0)), (1, .int (nI j))] := hl
  have hinX4 : ∀ w ∈ wsX40, w ∈ wsX4_drop := by decide +kernel
  obtain ⟨M1, M2, M3, M4, M5, M6, M7, M8, M9, M10, M11, M12, M13, M14, M15, M16⟩ := id hB
  refine lv_aload_n hx hb dX4_drop_0 rfl (lv_at hl 0 rfl) ?_
  refine va_get (D := (dC, dI)) (ci := 5) (v := .ref (b 19)) (C := RX4) (T := TX4) (N := 29) hx hb hts hinX4 hown hK hP 0 rfl rfl 19 (by decide) (hts (.fieldLink RX4 47 "RenameRowsModel" "marked" "[Z") (by decide +kernel)) (fun _ h9 => h9) rfl dX4_drop_1 ?_
  refine lv_iload_n hx hb dX4_drop_4 rfl (lv_at hl 1 rfl) ?_
  refine lv_iconst (v := nI 0) hx hb dX4_drop_5 (by decide) ?_
  refine ar_zst (D := (dC, dI)) (n := 8) (f := h 19) hx hb hK hP hD hS 13 1 rfl rfl (y := nI 0) (by decide) (by omega) (by omega) dX4_drop_6 (fun H locs hP hD hS => ?_)
  have hP : va_P (dC, dI) vwCl (wM cs b g (uf h 19 (upd (h 19) j (nI 0)))) H := hP
  have hD : va_D A (wM cs b g (uf h 19 (upd (h 19) j (nI 0)))) := hD
  refine lv_aload_n hx hb dX4_drop_7 rfl (lv_at hl 0 rfl) ?_
  refine lv_dup hx hb dX4_drop_8 rfl ?_
  refine va_get (D := (dC, dI)) (ci := 5) (v := .int (nI (g 23))) (C := RX4) (T := TX4) (N := 29) hx hb hts hinX4 hown hK hP 0 rfl rfl 23 (by decide) (hts (.fieldLink RX4 140 "RenameRowsModel" "marks" "I") (by decide +kernel)) (fun _ h9 => h9) rfl dX4_drop_9 ?_
  refine lv_iconst (v := nI 1) hx hb dX4_drop_12 (by decide) ?_
  refine lv_isub hx hb dX4_drop_13 ?_
  refine tp_eq (pk_sub (by omega)) ?_
  refine va_put (D := (dC, dI)) (ci := 5) (v := .int (nI ((g 23) - 1))) (ty := .int) (C := RX4) (T := TX4) (N := 29) hx hb hts hinX4 tyX4 tyX4_ok nmX4 hown hK hP hD hS 0 rfl rfl 23 (by decide) (hts (.fieldLink RX4 140 "RenameRowsModel" "marks" "I") (by decide +kernel)) (fun _ h9 => h9) rfl (by decide +kernel) rfl rfl (Nat.le_of_ble_eq_true rfl) dX4_drop_14 (fun H locs hP hD hS => ?_)
  have hP : va_P (dC, dI) vwCl (wM cs b (un g 23 ((g 23) - 1)) (uf h 19 (upd (h 19) j (nI 0)))) H := hP
  have hD : va_D A (wM cs b (un g 23 ((g 23) - 1)) (uf h 19 (upd (h 19) j (nI 0)))) := hD
  exact wr_vret hx hb hr hlocks hP hS dX4_drop_17

set_option maxHeartbeats 4000000 in
set_option maxRecDepth 100000 in
theorem c_X4_takeName (l : Launch) (dC : Nat → ClassId) (dI : Nat → Nat → Nat) (cs : ClassId × ClassId) (b g : Nat → Nat) (h : Nat → Nat → Int32) (sz : Nat) (hB : m_bd g) (h1 : 0 < g 9)  : Met l yX4_takeName wsX4_takeName ({ frames := 0, cells := 0, slots := 0, locals := 0 }) (wrPc (dC, dI) vwCl (wM cs b g h) (tyl cs) sz [.ref (b 0)]) (wrQ (dC, dI) vwCl (wM cs b (un g 9 ((g 9) - 1)) (uf h 8 (x_sl (h 8) 0 (((g 9) - 1))))) (some (.int (h 8 0))) (va_A (wM cs b g h) sz)) 0 0 (va_A (wM cs b g h) sz) := by
  refine wr_of (cc := cX4_takeName) (maxL := 3) (ret := (some .int)) (own := RX4) (by decide) rfl rfl (Nat.le_of_ble_eq_true rfl) ?_
  intro p e s m below meth c A hsz hAe hx hb hr hml hts hown hlocks hP hK hD hA hS ls hl
  have hl : lv_has ls 3 [(0, .ref (b 0))] := hl
  have hinX4 : ∀ w ∈ wsX40, w ∈ wsX4_takeName := by decide +kernel
  obtain ⟨M1, M2, M3, M4, M5, M6, M7, M8, M9, M10, M11, M12, M13, M14, M15, M16⟩ := id hB
  refine lv_aload_n hx hb dX4_takeName_0 rfl (lv_at hl 0 rfl) ?_
  refine va_get (D := (dC, dI)) (ci := 5) (v := .ref (b 8)) (C := RX4) (T := TX4) (N := 29) hx hb hts hinX4 hown hK hP 0 rfl rfl 8 (by decide) (hts (.fieldLink RX4 23 "RenameRowsModel" "queue" "[I") (by decide +kernel)) (fun _ h9 => h9) rfl dX4_takeName_1 ?_
  refine lv_iconst (v := nI 0) hx hb dX4_takeName_4 (by decide) ?_
  refine ar_ld (D := (dC, dI)) (n := 96) (f := h 8) hx hb hK hP 5 0 rfl rfl (by omega) (by omega) dX4_takeName_5 ?_
  refine lv_istore_n (lv' := [(1, .int (h 8 0)), (0, .ref (b 0))]) hx hb dX4_takeName_6 rfl hl (by decide) rfl (fun ls hl => ?_)
  refine lv_aload_n hx hb dX4_takeName_7 rfl (lv_at hl 1 rfl) ?_
  refine lv_dup hx hb dX4_takeName_8 rfl ?_
  refine va_get (D := (dC, dI)) (ci := 5) (v := .int (nI (g 9))) (C := RX4) (T := TX4) (N := 29) hx hb hts hinX4 hown hK hP 0 rfl rfl 9 (by decide) (hts (.fieldLink RX4 73 "RenameRowsModel" "free" "I") (by decide +kernel)) (fun _ h9 => h9) rfl dX4_takeName_9 ?_
  refine lv_iconst (v := nI 1) hx hb dX4_takeName_12 (by decide) ?_
  refine lv_isub hx hb dX4_takeName_13 ?_
  refine tp_eq (pk_sub (by omega)) ?_
  refine va_put (D := (dC, dI)) (ci := 5) (v := .int (nI ((g 9) - 1))) (ty := .int) (C := RX4) (T := TX4) (N := 29) hx hb hts hinX4 tyX4 tyX4_ok nmX4 hown hK hP hD hS 0 rfl rfl 9 (by decide) (hts (.fieldLink RX4 73 "RenameRowsModel" "free" "I") (by decide +kernel)) (fun _ h9 => h9) rfl (by decide +kernel) rfl rfl (Nat.le_of_ble_eq_true rfl) dX4_takeName_14 (fun H locs hP hD hS => ?_)
  have hP : va_P (dC, dI) vwCl (wM cs b (un g 9 ((g 9) - 1)) h) H := hP
  have hD : va_D A (wM cs b (un g 9 ((g 9) - 1)) h) := hD
  refine lv_iconst (v := nI 0) hx hb dX4_takeName_17 (by decide) ?_
  refine lv_istore_n (lv' := [(2, .int (nI 0)), (1, .int (h 8 0)), (0, .ref (b 0))]) hx hb dX4_takeName_18 rfl hl (by decide) rfl (fun ls hl => ?_)
  have hP : va_P (dC, dI) vwCl (wM cs b (un g 9 (g 9 - 1)) (uf h 8 (x_sl (h 8) 0 0))) H := by
    rw [x_sl_0]; exact hP
  have hD : va_D A (wM cs b (un g 9 (g 9 - 1)) (uf h 8 (x_sl (h 8) 0 0))) := hD.same rfl
  have key : ∀ (k u : Nat), u + k = g 9 - 1 → ∀ (H : Heap) (locs : List Loc), va_P (dC, dI) vwCl (wM cs b (un g 9 (g 9 - 1)) (uf h 8 (x_sl (h 8) 0 u))) H → va_D A (wM cs b (un g 9 (g 9 - 1)) (uf h 8 (x_sl (h 8) 0 u))) → va_S A s.heap H locs → ∀ ls : Array Slot, lv_has ls 3 [(2, .int (nI u)), (1, .int (h 8 0)), (0, .ref (b 0))] → W p l e ({ frames := 0, cells := 0, slots := 0, locals := 0 } : Room) s m ([.ref (b 0)] : List Value).toArray below meth c H locs 0 0 (MQ below (wrQ (dC, dI) vwCl (wM cs b (un g 9 ((g 9) - 1)) (uf h 8 (x_sl (h 8) 0 (((g 9) - 1))))) (some (.int (h 8 0))) A) ([.ref (b 0)] : List Value).toArray s 0 0 A) (F0 m 19 ls []) := by
    intro k
    induction k with
    | zero =>
      intro u hu H locs hP hD hS ls hl
      refine lv_iload_n hx hb dX4_takeName_19 rfl (lv_at hl 0 rfl) ?_
      refine lv_aload_n hx hb dX4_takeName_20 rfl (lv_at hl 2 rfl) ?_
      refine va_get (D := (dC, dI)) (ci := 5) (v := .int (nI (g 9 - 1))) (C := RX4) (T := TX4) (N := 29) hx hb hts hinX4 hown hK hP 0 rfl rfl 9 (by decide) (hts (.fieldLink RX4 73 "RenameRowsModel" "free" "I") (by decide +kernel)) (fun _ h9 => h9) rfl dX4_takeName_21 ?_
      refine lv_icmp_ge (tgt := 47) hx hb dX4_takeName_24 (by decide) (fun c_1 => ?_) (fun c_1 => absurd (nI_le (by omega) (by omega)) c_1)
      have c_1 : (g 9 - 1) ≤ u := (nI_leI (by omega) (by omega)).mp c_1
      have hu3 : u = g 9 - 1 := by omega
      refine lv_iload_n hx hb dX4_takeName_47 rfl (lv_at hl 1 rfl) ?_
      have hP : va_P (dC, dI) vwCl (wM cs b (un g 9 ((g 9) - 1)) (uf h 8 (x_sl (h 8) 0 (((g 9) - 1))))) H := by
        have e9 : (wM cs b (un g 9 (g 9 - 1)) (uf h 8 (x_sl (h 8) 0 u))) = (wM cs b (un g 9 ((g 9) - 1)) (uf h 8 (x_sl (h 8) 0 (((g 9) - 1))))) := by rw [hu3]
        rw [← e9]; exact hP
      exact wr_iret hx hb hr hlocks hP hS dX4_takeName_48
    | succ k ih =>
      intro u hu H locs hP hD hS ls hl
      refine lv_iload_n hx hb dX4_takeName_19 rfl (lv_at hl 0 rfl) ?_
      refine lv_aload_n hx hb dX4_takeName_20 rfl (lv_at hl 2 rfl) ?_
      refine va_get (D := (dC, dI)) (ci := 5) (v := .int (nI (g 9 - 1))) (C := RX4) (T := TX4) (N := 29) hx hb hts hinX4 hown hK hP 0 rfl rfl 9 (by decide) (hts (.fieldLink RX4 73 "RenameRowsModel" "free" "I") (by decide +kernel)) (fun _ h9 => h9) rfl dX4_takeName_21 ?_
      refine lv_icmp_ge (tgt := 47) hx hb dX4_takeName_24 (by decide) (fun c_2 => absurd ((nI_leI (by omega) (by omega)).mp c_2) (by omega)) (fun c_2 => ?_)
      have c_2 : ¬ (g 9 - 1) ≤ u := fun q => c_2 ((nI_leI (by omega) (by omega)).mpr q)
      refine lv_aload_n hx hb dX4_takeName_27 rfl (lv_at hl 2 rfl) ?_
      refine va_get (D := (dC, dI)) (ci := 5) (v := .ref (b 8)) (C := RX4) (T := TX4) (N := 29) hx hb hts hinX4 hown hK hP 0 rfl rfl 8 (by decide) (hts (.fieldLink RX4 23 "RenameRowsModel" "queue" "[I") (by decide +kernel)) (fun _ h9 => h9) rfl dX4_takeName_28 ?_
      refine lv_iload_n hx hb dX4_takeName_31 rfl (lv_at hl 0 rfl) ?_
      refine lv_aload_n hx hb dX4_takeName_32 rfl (lv_at hl 2 rfl) ?_
      refine va_get (D := (dC, dI)) (ci := 5) (v := .ref (b 8)) (C := RX4) (T := TX4) (N := 29) hx hb hts hinX4 hown hK hP 0 rfl rfl 8 (by decide) (hts (.fieldLink RX4 23 "RenameRowsModel" "queue" "[I") (by decide +kernel)) (fun _ h9 => h9) rfl dX4_takeName_33 ?_
      refine lv_iload_n hx hb dX4_takeName_36 rfl (lv_at hl 0 rfl) ?_
      refine lv_iconst (v := nI 1) hx hb dX4_takeName_37 (by decide) ?_
      refine lv_iadd hx hb dX4_takeName_38 ?_
      refine tp_eq (nI_add u 1) ?_
      refine ar_ld (D := (dC, dI)) (n := 96) (f := (x_sl (h 8) 0 u)) hx hb hK hP 5 0 rfl rfl (by omega) (by omega) dX4_takeName_39 ?_
      refine ar_st (D := (dC, dI)) (n := 96) (f := (x_sl (h 8) 0 u)) hx hb hK hP hD hS 5 0 rfl rfl (by omega) (by omega) dX4_takeName_40 (fun H locs hP hD hS => ?_)
      have hP : va_P (dC, dI) vwCl (wM cs b (un g 9 (g 9 - 1)) (uf (uf h 8 (x_sl (h 8) 0 u)) 8 (upd (x_sl (h 8) 0 u) u ((x_sl (h 8) 0 u) (u + 1))))) H := hP
      have hD : va_D A (wM cs b (un g 9 (g 9 - 1)) (uf (uf h 8 (x_sl (h 8) 0 u)) 8 (upd (x_sl (h 8) 0 u) u ((x_sl (h 8) 0 u) (u + 1))))) := hD
      have hP : va_P (dC, dI) vwCl (wM cs b (un g 9 (g 9 - 1)) (uf h 8 (x_sl (h 8) 0 (u + 1)))) H := by
        rw [← x_sl_s (h 8) (show 0 ≤ u by omega)]; exact hP
      have hD : va_D A (wM cs b (un g 9 (g 9 - 1)) (uf h 8 (x_sl (h 8) 0 (u + 1)))) := hD.same rfl
      refine lv_iinc (v := nI (u + 1)) (lv' := [(2, .int (nI (u + 1))), (1, .int (h 8 0)), (0, .ref (b 0))]) hx hb dX4_takeName_41 hl (k := 0) rfl (nI_succ u).symm (by decide) rfl (fun ls hl => ?_)
      refine lv_goto (tgt := 19) hx hb dX4_takeName_44 (by decide) ?_
      exact ih (u + 1) (by omega) H locs hP hD hS ls (lv_sub hl [0, 1, 2] rfl)
  exact key (g 9 - 1) 0 (by omega) _ _ hP hD hS ls (lv_sub hl [0, 1, 2] rfl)

set_option maxHeartbeats 4000000 in
set_option maxRecDepth 100000 in
theorem c_X4_add_0 (l : Launch) (dC : Nat → ClassId) (dI : Nat → Nat → Nat) (cs : ClassId × ClassId) (b g : Nat → Nat) (h : Nat → Nat → Int32) (sz : Nat) (ra : Int32) (rb : Int32) (rg : Int32) (rt : Int32) (rs : Int32) (hrt : rt = -1) (hB : m_bd g) (h1 : g 10 < g 3)  : Met l yX4_add wsX4_add ({ frames := 1, cells := 0, slots := 0, locals := 21 }) (wrPc (dC, dI) vwCl (wM cs b g h) (tyl cs) sz [.ref (b 0), .int ra, .int rb, .int rg, .int rt, .int rs]) (wrQ (dC, dI) vwCl (wM cs b (un g 10 ((g 10) + 1)) (m_aF g h ra rb rg (-1) rt rs)) (some (.int (nI (m_pos g (g 10))))) (va_A (wM cs b g h) sz)) 0 0 (va_A (wM cs b g h) sz) := by
  refine wr_of (cc := cX4_add) (maxL := 6) (ret := (some .int)) (own := RX4) (by decide) rfl rfl (Nat.le_of_ble_eq_true rfl) ?_
  intro p e s m below meth c A hsz hAe hx hb hr hml hts hown hlocks hP hK hD hA hS ls hl
  have hl : lv_has ls 6 [(0, .ref (b 0)), (1, .int ra), (2, .int rb), (3, .int rg), (4, .int rt), (5, .int rs)] := hl
  have hinX4 : ∀ w ∈ wsX40, w ∈ wsX4_add := by decide +kernel
  obtain ⟨M1, M2, M3, M4, M5, M6, M7, M8, M9, M10, M11, M12, M13, M14, M15, M16⟩ := id hB
  refine lv_aload_n hx hb dX4_add_0 rfl (lv_at hl 0 rfl) ?_
  refine va_get (D := (dC, dI)) (ci := 5) (v := .ref (b 12)) (C := RX4) (T := TX4) (N := 29) hx hb hts hinX4 hown hK hP 0 rfl rfl 12 (by decide) (hts (.fieldLink RX4 26 "RenameRowsModel" "first" "[I") (by decide +kernel)) (fun _ h9 => h9) rfl dX4_add_1 ?_
  refine lv_aload_n hx hb dX4_add_4 rfl (lv_at hl 0 rfl) ?_
  refine va_get (D := (dC, dI)) (ci := 5) (v := .int (nI (g 10))) (C := RX4) (T := TX4) (N := 29) hx hb hts hinX4 hown hK hP 0 rfl rfl 10 (by decide) (hts (.fieldLink RX4 86 "RenameRowsModel" "rows" "I") (by decide +kernel)) (fun _ h9 => h9) rfl dX4_add_5 ?_
  refine lv_iload_n hx hb dX4_add_8 rfl (lv_at hl 1 rfl) ?_
  refine ar_st (D := (dC, dI)) (n := 64) (f := h 12) hx hb hK hP hD hS 6 0 rfl rfl (by omega) (by omega) dX4_add_9 (fun H locs hP hD hS => ?_)
  have hP : va_P (dC, dI) vwCl (wM cs b g (uf h 12 (upd (h 12) (g 10) ra))) H := hP
  have hD : va_D A (wM cs b g (uf h 12 (upd (h 12) (g 10) ra))) := hD
  refine lv_aload_n hx hb dX4_add_10 rfl (lv_at hl 0 rfl) ?_
  refine va_get (D := (dC, dI)) (ci := 5) (v := .ref (b 13)) (C := RX4) (T := TX4) (N := 29) hx hb hts hinX4 hown hK hP 0 rfl rfl 13 (by decide) (hts (.fieldLink RX4 29 "RenameRowsModel" "second" "[I") (by decide +kernel)) (fun _ h9 => h9) rfl dX4_add_11 ?_
  refine lv_aload_n hx hb dX4_add_14 rfl (lv_at hl 0 rfl) ?_
  refine va_get (D := (dC, dI)) (ci := 5) (v := .int (nI (g 10))) (C := RX4) (T := TX4) (N := 29) hx hb hts hinX4 hown hK hP 0 rfl rfl 10 (by decide) (hts (.fieldLink RX4 86 "RenameRowsModel" "rows" "I") (by decide +kernel)) (fun _ h9 => h9) rfl dX4_add_15 ?_
  refine lv_iload_n hx hb dX4_add_18 rfl (lv_at hl 2 rfl) ?_
  refine ar_st (D := (dC, dI)) (n := 64) (f := h 13) hx hb hK hP hD hS 7 0 rfl rfl (by omega) (by omega) dX4_add_19 (fun H locs hP hD hS => ?_)
  have hP : va_P (dC, dI) vwCl (wM cs b g (uf (uf h 12 (upd (h 12) (g 10) ra)) 13 (upd (h 13) (g 10) rb))) H := hP
  have hD : va_D A (wM cs b g (uf (uf h 12 (upd (h 12) (g 10) ra)) 13 (upd (h 13) (g 10) rb))) := hD
  refine lv_aload_n hx hb dX4_add_20 rfl (lv_at hl 0 rfl) ?_
  refine va_get (D := (dC, dI)) (ci := 5) (v := .ref (b 14)) (C := RX4) (T := TX4) (N := 29) hx hb hts hinX4 hown hK hP 0 rfl rfl 14 (by decide) (hts (.fieldLink RX4 32 "RenameRowsModel" "gave" "[I") (by decide +kernel)) (fun _ h9 => h9) rfl dX4_add_21 ?_
  refine lv_aload_n hx hb dX4_add_24 rfl (lv_at hl 0 rfl) ?_
  refine va_get (D := (dC, dI)) (ci := 5) (v := .int (nI (g 10))) (C := RX4) (T := TX4) (N := 29) hx hb hts hinX4 hown hK hP 0 rfl rfl 10 (by decide) (hts (.fieldLink RX4 86 "RenameRowsModel" "rows" "I") (by decide +kernel)) (fun _ h9 => h9) rfl dX4_add_25 ?_
  refine lv_iload_n hx hb dX4_add_28 rfl (lv_at hl 3 rfl) ?_
  refine ar_st (D := (dC, dI)) (n := 64) (f := h 14) hx hb hK hP hD hS 8 0 rfl rfl (by omega) (by omega) dX4_add_29 (fun H locs hP hD hS => ?_)
  have hP : va_P (dC, dI) vwCl (wM cs b g (uf (uf (uf h 12 (upd (h 12) (g 10) ra)) 13 (upd (h 13) (g 10) rb)) 14 (upd (h 14) (g 10) rg))) H := hP
  have hD : va_D A (wM cs b g (uf (uf (uf h 12 (upd (h 12) (g 10) ra)) 13 (upd (h 13) (g 10) rb)) 14 (upd (h 14) (g 10) rg))) := hD
  refine lv_aload_n hx hb dX4_add_30 rfl (lv_at hl 0 rfl) ?_
  refine va_get (D := (dC, dI)) (ci := 5) (v := .ref (b 15)) (C := RX4) (T := TX4) (N := 29) hx hb hts hinX4 hown hK hP 0 rfl rfl 15 (by decide) (hts (.fieldLink RX4 35 "RenameRowsModel" "knew" "[I") (by decide +kernel)) (fun _ h9 => h9) rfl dX4_add_31 ?_
  refine lv_aload_n hx hb dX4_add_34 rfl (lv_at hl 0 rfl) ?_
  refine va_get (D := (dC, dI)) (ci := 5) (v := .int (nI (g 10))) (C := RX4) (T := TX4) (N := 29) hx hb hts hinX4 hown hK hP 0 rfl rfl 10 (by decide) (hts (.fieldLink RX4 86 "RenameRowsModel" "rows" "I") (by decide +kernel)) (fun _ h9 => h9) rfl dX4_add_35 ?_
  refine lv_iload hx hb dX4_add_38 (lv_at hl 4 rfl) ?_
  refine lv_if_ge (tgt := 47) hx hb dX4_add_40 (by decide) (fun c_1 => absurd c_1 (by rw [hrt]; decide)) (fun c_1 => ?_)
  refine lv_iconst (v := (-1)) hx hb dX4_add_43 (by decide) ?_
  refine lv_goto (tgt := 54) hx hb dX4_add_44 (by decide) ?_
  refine ar_st (D := (dC, dI)) (n := 64) (f := h 15) hx hb hK hP hD hS 9 0 rfl rfl (by omega) (by omega) dX4_add_54 (fun H locs hP hD hS => ?_)
  have hP : va_P (dC, dI) vwCl (wM cs b g (uf (uf (uf (uf h 12 (upd (h 12) (g 10) ra)) 13 (upd (h 13) (g 10) rb)) 14 (upd (h 14) (g 10) rg)) 15 (upd (h 15) (g 10) (-1)))) H := hP
  have hD : va_D A (wM cs b g (uf (uf (uf (uf h 12 (upd (h 12) (g 10) ra)) 13 (upd (h 13) (g 10) rb)) 14 (upd (h 14) (g 10) rg)) 15 (upd (h 15) (g 10) (-1)))) := hD
  refine lv_aload_n hx hb dX4_add_55 rfl (lv_at hl 0 rfl) ?_
  refine va_get (D := (dC, dI)) (ci := 5) (v := .ref (b 16)) (C := RX4) (T := TX4) (N := 29) hx hb hts hinX4 hown hK hP 0 rfl rfl 16 (by decide) (hts (.fieldLink RX4 38 "RenameRowsModel" "register" "[I") (by decide +kernel)) (fun _ h9 => h9) rfl dX4_add_56 ?_
  refine lv_aload_n hx hb dX4_add_59 rfl (lv_at hl 0 rfl) ?_
  refine va_get (D := (dC, dI)) (ci := 5) (v := .int (nI (g 10))) (C := RX4) (T := TX4) (N := 29) hx hb hts hinX4 hown hK hP 0 rfl rfl 10 (by decide) (hts (.fieldLink RX4 86 "RenameRowsModel" "rows" "I") (by decide +kernel)) (fun _ h9 => h9) rfl dX4_add_60 ?_
  refine lv_iload hx hb dX4_add_63 (lv_at hl 4 rfl) ?_
  refine ar_st (D := (dC, dI)) (n := 64) (f := h 16) hx hb hK hP hD hS 10 0 rfl rfl (by omega) (by omega) dX4_add_65 (fun H locs hP hD hS => ?_)
  have hP : va_P (dC, dI) vwCl (wM cs b g (uf (uf (uf (uf (uf h 12 (upd (h 12) (g 10) ra)) 13 (upd (h 13) (g 10) rb)) 14 (upd (h 14) (g 10) rg)) 15 (upd (h 15) (g 10) (-1))) 16 (upd (h 16) (g 10) rt))) H := hP
  have hD : va_D A (wM cs b g (uf (uf (uf (uf (uf h 12 (upd (h 12) (g 10) ra)) 13 (upd (h 13) (g 10) rb)) 14 (upd (h 14) (g 10) rg)) 15 (upd (h 15) (g 10) (-1))) 16 (upd (h 16) (g 10) rt))) := hD
  refine lv_aload_n hx hb dX4_add_66 rfl (lv_at hl 0 rfl) ?_
  refine va_get (D := (dC, dI)) (ci := 5) (v := .ref (b 17)) (C := RX4) (T := TX4) (N := 29) hx hb hts hinX4 hown hK hP 0 rfl rfl 17 (by decide) (hts (.fieldLink RX4 41 "RenameRowsModel" "ports" "[I") (by decide +kernel)) (fun _ h9 => h9) rfl dX4_add_67 ?_
  refine lv_aload_n hx hb dX4_add_70 rfl (lv_at hl 0 rfl) ?_
  refine va_get (D := (dC, dI)) (ci := 5) (v := .int (nI (g 10))) (C := RX4) (T := TX4) (N := 29) hx hb hts hinX4 hown hK hP 0 rfl rfl 10 (by decide) (hts (.fieldLink RX4 86 "RenameRowsModel" "rows" "I") (by decide +kernel)) (fun _ h9 => h9) rfl dX4_add_71 ?_
  refine lv_iconst (v := nI 0) hx hb dX4_add_74 (by decide) ?_
  refine ar_st (D := (dC, dI)) (n := 64) (f := h 17) hx hb hK hP hD hS 11 0 rfl rfl (by omega) (by omega) dX4_add_75 (fun H locs hP hD hS => ?_)
  have hP : va_P (dC, dI) vwCl (wM cs b g (uf (uf (uf (uf (uf (uf h 12 (upd (h 12) (g 10) ra)) 13 (upd (h 13) (g 10) rb)) 14 (upd (h 14) (g 10) rg)) 15 (upd (h 15) (g 10) (-1))) 16 (upd (h 16) (g 10) rt)) 17 (upd (h 17) (g 10) (nI 0)))) H := hP
  have hD : va_D A (wM cs b g (uf (uf (uf (uf (uf (uf h 12 (upd (h 12) (g 10) ra)) 13 (upd (h 13) (g 10) rb)) 14 (upd (h 14) (g 10) rg)) 15 (upd (h 15) (g 10) (-1))) 16 (upd (h 16) (g 10) rt)) 17 (upd (h 17) (g 10) (nI 0)))) := hD
  refine lv_aload_n hx hb dX4_add_76 rfl (lv_at hl 0 rfl) ?_
  refine va_get (D := (dC, dI)) (ci := 5) (v := .ref (b 18)) (C := RX4) (T := TX4) (N := 29) hx hb hts hinX4 hown hK hP 0 rfl rfl 18 (by decide) (hts (.fieldLink RX4 44 "RenameRowsModel" "state" "[I") (by decide +kernel)) (fun _ h9 => h9) rfl dX4_add_77 ?_
  refine lv_aload_n hx hb dX4_add_80 rfl (lv_at hl 0 rfl) ?_
  refine va_get (D := (dC, dI)) (ci := 5) (v := .int (nI (g 10))) (C := RX4) (T := TX4) (N := 29) hx hb hts hinX4 hown hK hP 0 rfl rfl 10 (by decide) (hts (.fieldLink RX4 86 "RenameRowsModel" "rows" "I") (by decide +kernel)) (fun _ h9 => h9) rfl dX4_add_81 ?_
  refine lv_iload hx hb dX4_add_84 (lv_at hl 5 rfl) ?_
  refine ar_st (D := (dC, dI)) (n := 64) (f := h 18) hx hb hK hP hD hS 12 0 rfl rfl (by omega) (by omega) dX4_add_86 (fun H locs hP hD hS => ?_)
  have hP : va_P (dC, dI) vwCl (wM cs b g (uf (uf (uf (uf (uf (uf (uf h 12 (upd (h 12) (g 10) ra)) 13 (upd (h 13) (g 10) rb)) 14 (upd (h 14) (g 10) rg)) 15 (upd (h 15) (g 10) (-1))) 16 (upd (h 16) (g 10) rt)) 17 (upd (h 17) (g 10) (nI 0))) 18 (upd (h 18) (g 10) rs))) H := hP
  have hD : va_D A (wM cs b g (uf (uf (uf (uf (uf (uf (uf h 12 (upd (h 12) (g 10) ra)) 13 (upd (h 13) (g 10) rb)) 14 (upd (h 14) (g 10) rg)) 15 (upd (h 15) (g 10) (-1))) 16 (upd (h 16) (g 10) rt)) 17 (upd (h 17) (g 10) (nI 0))) 18 (upd (h 18) (g 10) rs))) := hD
  refine lv_iload hx hb dX4_add_87 (lv_at hl 4 rfl) ?_
  refine lv_if_lt (tgt := 100) hx hb dX4_add_89 (by decide) (fun c_2 => ?_) (fun c_2 => absurd (by rw [hrt]; decide) c_2)
  refine lv_aload_n hx hb dX4_add_100 rfl (lv_at hl 0 rfl) ?_
  refine lv_dup hx hb dX4_add_101 rfl ?_
  refine va_get (D := (dC, dI)) (ci := 5) (v := .int (nI (g 10))) (C := RX4) (T := TX4) (N := 29) hx hb hts hinX4 hown hK hP 0 rfl rfl 10 (by decide) (hts (.fieldLink RX4 86 "RenameRowsModel" "rows" "I") (by decide +kernel)) (fun _ h9 => h9) rfl dX4_add_102 ?_
  refine lv_iconst (v := nI 1) hx hb dX4_add_105 (by decide) ?_
  refine lv_iadd hx hb dX4_add_106 ?_
  refine tp_eq (nI_add (g 10) 1) ?_
  refine va_put (D := (dC, dI)) (ci := 5) (v := .int (nI ((g 10) + 1))) (ty := .int) (C := RX4) (T := TX4) (N := 29) hx hb hts hinX4 tyX4 tyX4_ok nmX4 hown hK hP hD hS 0 rfl rfl 10 (by decide) (hts (.fieldLink RX4 86 "RenameRowsModel" "rows" "I") (by decide +kernel)) (fun _ h9 => h9) rfl (by decide +kernel) rfl rfl (Nat.le_of_ble_eq_true rfl) dX4_add_107 (fun H locs hP hD hS => ?_)
  have hP : va_P (dC, dI) vwCl (wM cs b (un g 10 ((g 10) + 1)) (uf (uf (uf (uf (uf (uf (uf h 12 (upd (h 12) (g 10) ra)) 13 (upd (h 13) (g 10) rb)) 14 (upd (h 14) (g 10) rg)) 15 (upd (h 15) (g 10) (-1))) 16 (upd (h 16) (g 10) rt)) 17 (upd (h 17) (g 10) (nI 0))) 18 (upd (h 18) (g 10) rs))) H := hP
  have hD : va_D A (wM cs b (un g 10 ((g 10) + 1)) (uf (uf (uf (uf (uf (uf (uf h 12 (upd (h 12) (g 10) ra)) 13 (upd (h 13) (g 10) rb)) 14 (upd (h 14) (g 10) rg)) 15 (upd (h 15) (g 10) (-1))) 16 (upd (h 16) (g 10) rt)) 17 (upd (h 17) (g 10) (nI 0))) 18 (upd (h 18) (g 10) rs))) := hD
  have hB : m_bd (un g 10 ((g 10) + 1)) := by (unfold m_bd un; simp; omega)
  refine lv_aload_n hx hb dX4_add_110 rfl (lv_at hl 0 rfl) ?_
  refine lv_aload_n hx hb dX4_add_111 rfl (lv_at hl 0 rfl) ?_
  refine va_get (D := (dC, dI)) (ci := 5) (v := .int (nI ((g 10) + 1))) (C := RX4) (T := TX4) (N := 29) hx hb hts hinX4 hown hK hP 0 rfl rfl 10 (by decide) (hts (.fieldLink RX4 86 "RenameRowsModel" "rows" "I") (by decide +kernel)) (fun _ h9 => h9) rfl dX4_add_112 ?_
  refine lv_iconst (v := nI 1) hx hb dX4_add_115 (by decide) ?_
  refine lv_isub hx hb dX4_add_116 ?_
  refine tp_eq (pk_sub (by omega)) ?_
  refine W.callR (W.runV (As := [.int (nI (((g 10) + 1) - 1))]) (rest := []) ⟨hx, hb, hml, hown, hts⟩ (c_X4_placeOf l dC dI cs b (un g 10 ((g 10) + 1)) (uf (uf (uf (uf (uf (uf (uf h 12 (upd (h 12) (g 10) ra)) 13 (upd (h 13) (g 10) rb)) 14 (upd (h 14) (g 10) rg)) 15 (upd (h 15) (g 10) (-1))) 16 (upd (h 16) (g 10) rt)) 17 (upd (h 17) (g 10) (nI 0))) 18 (upd (h 18) (g 10) rs)) (((g 10) + 1) - 1) hB (by first | omega | assumption)) (cwV 1 hts gX4_add_X4_placeOf rfl rfl rfl (by decide +kernel) ⟨Nat.le_of_ble_eq_true rfl, Nat.le_of_ble_eq_true rfl⟩) (rd_preV (q := (RX4, TX4, 29)) hP hK 0 rfl rfl) rfl rfl hl.1 rfl (lv_room (Nat.le_of_ble_eq_true rfl)) dX4_add_117 ⟨Nat.zero_le _, Nat.zero_le _⟩) ?_
  refine W.eq (g2 := F0 m 120 ls (.int (nI (m_pos (un g 10 ((g 10) + 1)) (((g 10) + 1) - 1))) :: [])) rfl ?_
  have k_3 := m_pos_lt (g := (un g 10 ((g 10) + 1))) (j := (((g 10) + 1) - 1)) (by first | omega | exact M5)
  have hP : va_P (dC, dI) vwCl (wM cs b (un g 10 ((g 10) + 1)) (m_aF g h ra rb rg (-1) rt rs)) H := by
    have e9 : (wM cs b (un g 10 ((g 10) + 1)) (uf (uf (uf (uf (uf (uf (uf h 12 (upd (h 12) (g 10) ra)) 13 (upd (h 13) (g 10) rb)) 14 (upd (h 14) (g 10) rg)) 15 (upd (h 15) (g 10) (-1))) 16 (upd (h 16) (g 10) rt)) 17 (upd (h 17) (g 10) (nI 0))) 18 (upd (h 18) (g 10) rs))) = (wM cs b (un g 10 ((g 10) + 1)) (m_aF g h ra rb rg (-1) rt rs)) := by first | rfl | exact congrArg nI (by simp [m_pos, un])
    rw [← e9]; exact hP
  refine tp_eq (show _ = nI (m_pos g (g 10)) by first | rfl | exact congrArg nI (by simp [m_pos, un])) ?_
  exact wr_iret hx hb hr hlocks hP hS dX4_add_120

set_option maxHeartbeats 4000000 in
set_option maxRecDepth 100000 in
theorem c_X4_add_r (l : Launch) (dC : Nat → ClassId) (dI : Nat → Nat → Nat) (cs : ClassId × ClassId) (b g : Nat → Nat) (h : Nat → Nat → Int32) (sz : Nat) (ra : Int32) (rb : Int32) (rg : Int32) (r : Nat) (rs : Int32) (hB : m_bd g) (h1 : g 10 < g 3) (h2 : r < 32)  : Met l yX4_add wsX4_add ({ frames := 1, cells := 0, slots := 0, locals := 21 }) (wrPc (dC, dI) vwCl (wM cs b g h) (tyl cs) sz [.ref (b 0), .int ra, .int rb, .int rg, .int (nI r), .int rs]) (wrQ (dC, dI) vwCl (wM cs b (un g 10 ((g 10) + 1)) (uf (m_aF g h ra rb rg (h 4 r) (nI r) rs) 4 (upd (h 4) r rg))) (some (.int (nI (m_pos g (g 10))))) (va_A (wM cs b g h) sz)) 0 0 (va_A (wM cs b g h) sz) := by
  refine wr_of (cc := cX4_add) (maxL := 6) (ret := (some .int)) (own := RX4) (by decide) rfl rfl (Nat.le_of_ble_eq_true rfl) ?_
  intro p e s m below meth c A hsz hAe hx hb hr hml hts hown hlocks hP hK hD hA hS ls hl
  have hl : lv_has ls 6 [(0, .ref (b 0)), (1, .int ra), (2, .int rb), (3, .int rg), (4, .int (nI r)), (5, .int rs)] := hl
  have hinX4 : ∀ w ∈ wsX40, w ∈ wsX4_add := by decide +kernel
  obtain ⟨M1, M2, M3, M4, M5, M6, M7, M8, M9, M10, M11, M12, M13, M14, M15, M16⟩ := id hB
  refine lv_aload_n hx hb dX4_add_0 rfl (lv_at hl 0 rfl) ?_
  refine va_get (D := (dC, dI)) (ci := 5) (v := .ref (b 12)) (C := RX4) (T := TX4) (N := 29) hx hb hts hinX4 hown hK hP 0 rfl rfl 12 (by decide) (hts (.fieldLink RX4 26 "RenameRowsModel" "first" "[I") (by decide +kernel)) (fun _ h9 => h9) rfl dX4_add_1 ?_
  refine lv_aload_n hx hb dX4_add_4 rfl (lv_at hl 0 rfl) ?_
  refine va_get (D := (dC, dI)) (ci := 5) (v := .int (nI (g 10))) (C := RX4) (T := TX4) (N := 29) hx hb hts hinX4 hown hK hP 0 rfl rfl 10 (by decide) (hts (.fieldLink RX4 86 "RenameRowsModel" "rows" "I") (by decide +kernel)) (fun _ h9 => h9) rfl dX4_add_5 ?_
  refine lv_iload_n hx hb dX4_add_8 rfl (lv_at hl 1 rfl) ?_
  refine ar_st (D := (dC, dI)) (n := 64) (f := h 12) hx hb hK hP hD hS 6 0 rfl rfl (by omega) (by omega) dX4_add_9 (fun H locs hP hD hS => ?_)
  have hP : va_P (dC, dI) vwCl (wM cs b g (uf h 12 (upd (h 12) (g 10) ra))) H := hP
  have hD : va_D A (wM cs b g (uf h 12 (upd (h 12) (g 10) ra))) := hD
  refine lv_aload_n hx hb dX4_add_10 rfl (lv_at hl 0 rfl) ?_
  refine va_get (D := (dC, dI)) (ci := 5) (v := .ref (b 13)) (C := RX4) (T := TX4) (N := 29) hx hb hts hinX4 hown hK hP 0 rfl rfl 13 (by decide) (hts (.fieldLink RX4 29 "RenameRowsModel" "second" "[I") (by decide +kernel)) (fun _ h9 => h9) rfl dX4_add_11 ?_
  refine lv_aload_n hx hb dX4_add_14 rfl (lv_at hl 0 rfl) ?_
  refine va_get (D := (dC, dI)) (ci := 5) (v := .int (nI (g 10))) (C := RX4) (T := TX4) (N := 29) hx hb hts hinX4 hown hK hP 0 rfl rfl 10 (by decide) (hts (.fieldLink RX4 86 "RenameRowsModel" "rows" "I") (by decide +kernel)) (fun _ h9 => h9) rfl dX4_add_15 ?_
  refine lv_iload_n hx hb dX4_add_18 rfl (lv_at hl 2 rfl) ?_
  refine ar_st (D := (dC, dI)) (n := 64) (f := h 13) hx hb hK hP hD hS 7 0 rfl rfl (by omega) (by omega) dX4_add_19 (fun H locs hP hD hS => ?_)
  have hP : va_P (dC, dI) vwCl (wM cs b g (uf (uf h 12 (upd (h 12) (g 10) ra)) 13 (upd (h 13) (g 10) rb))) H := hP
  have hD : va_D A (wM cs b g (uf (uf h 12 (upd (h 12) (g 10) ra)) 13 (upd (h 13) (g 10) rb))) := hD
  refine lv_aload_n hx hb dX4_add_20 rfl (lv_at hl 0 rfl) ?_
  refine va_get (D := (dC, dI)) (ci := 5) (v := .ref (b 14)) (C := RX4) (T := TX4) (N := 29) hx hb hts hinX4 hown hK hP 0 rfl rfl 14 (by decide) (hts (.fieldLink RX4 32 "RenameRowsModel" "gave" "[I") (by decide +kernel)) (fun _ h9 => h9) rfl dX4_add_21 ?_
  refine lv_aload_n hx hb dX4_add_24 rfl (lv_at hl 0 rfl) ?_
  refine va_get (D := (dC, dI)) (ci := 5) (v := .int (nI (g 10))) (C := RX4) (T := TX4) (N := 29) hx hb hts hinX4 hown hK hP 0 rfl rfl 10 (by decide) (hts (.fieldLink RX4 86 "RenameRowsModel" "rows" "I") (by decide +kernel)) (fun _ h9 => h9) rfl dX4_add_25 ?_
  refine lv_iload_n hx hb dX4_add_28 rfl (lv_at hl 3 rfl) ?_
  refine ar_st (D := (dC, dI)) (n := 64) (f := h 14) hx hb hK hP hD hS 8 0 rfl rfl (by omega) (by omega) dX4_add_29 (fun H locs hP hD hS => ?_)
  have hP : va_P (dC, dI) vwCl (wM cs b g (uf (uf (uf h 12 (upd (h 12) (g 10) ra)) 13 (upd (h 13) (g 10) rb)) 14 (upd (h 14) (g 10) rg))) H := hP
  have hD : va_D A (wM cs b g (uf (uf (uf h 12 (upd (h 12) (g 10) ra)) 13 (upd (h 13) (g 10) rb)) 14 (upd (h 14) (g 10) rg))) := hD
  refine lv_aload_n hx hb dX4_add_30 rfl (lv_at hl 0 rfl) ?_
  refine va_get (D := (dC, dI)) (ci := 5) (v := .ref (b 15)) (C := RX4) (T := TX4) (N := 29) hx hb hts hinX4 hown hK hP 0 rfl rfl 15 (by decide) (hts (.fieldLink RX4 35 "RenameRowsModel" "knew" "[I") (by decide +kernel)) (fun _ h9 => h9) rfl dX4_add_31 ?_
  refine lv_aload_n hx hb dX4_add_34 rfl (lv_at hl 0 rfl) ?_
  refine va_get (D := (dC, dI)) (ci := 5) (v := .int (nI (g 10))) (C := RX4) (T := TX4) (N := 29) hx hb hts hinX4 hown hK hP 0 rfl rfl 10 (by decide) (hts (.fieldLink RX4 86 "RenameRowsModel" "rows" "I") (by decide +kernel)) (fun _ h9 => h9) rfl dX4_add_35 ?_
  refine lv_iload hx hb dX4_add_38 (lv_at hl 4 rfl) ?_
  refine lv_if_ge (tgt := 47) hx hb dX4_add_40 (by decide) (fun _ => ?_) (fun c => absurd (nI_pos' (by omega)) c)
  refine lv_aload_n hx hb dX4_add_47 rfl (lv_at hl 0 rfl) ?_
  refine va_get (D := (dC, dI)) (ci := 5) (v := .ref (b 4)) (C := RX4) (T := TX4) (N := 29) hx hb hts hinX4 hown hK hP 0 rfl rfl 4 (by decide) (hts (.fieldLink RX4 7 "RenameRowsModel" "name" "[I") (by decide +kernel)) (fun _ h9 => h9) rfl dX4_add_48 ?_
  refine lv_iload hx hb dX4_add_51 (lv_at hl 4 rfl) ?_
  refine ar_ld (D := (dC, dI)) (n := 32) (f := h 4) hx hb hK hP 1 0 rfl rfl (by omega) (by omega) dX4_add_53 ?_
  refine ar_st (D := (dC, dI)) (n := 64) (f := h 15) hx hb hK hP hD hS 9 0 rfl rfl (by omega) (by omega) dX4_add_54 (fun H locs hP hD hS => ?_)
  have hP : va_P (dC, dI) vwCl (wM cs b g (uf (uf (uf (uf h 12 (upd (h 12) (g 10) ra)) 13 (upd (h 13) (g 10) rb)) 14 (upd (h 14) (g 10) rg)) 15 (upd (h 15) (g 10) (h 4 r)))) H := hP
  have hD : va_D A (wM cs b g (uf (uf (uf (uf h 12 (upd (h 12) (g 10) ra)) 13 (upd (h 13) (g 10) rb)) 14 (upd (h 14) (g 10) rg)) 15 (upd (h 15) (g 10) (h 4 r)))) := hD
  refine lv_aload_n hx hb dX4_add_55 rfl (lv_at hl 0 rfl) ?_
  refine va_get (D := (dC, dI)) (ci := 5) (v := .ref (b 16)) (C := RX4) (T := TX4) (N := 29) hx hb hts hinX4 hown hK hP 0 rfl rfl 16 (by decide) (hts (.fieldLink RX4 38 "RenameRowsModel" "register" "[I") (by decide +kernel)) (fun _ h9 => h9) rfl dX4_add_56 ?_
  refine lv_aload_n hx hb dX4_add_59 rfl (lv_at hl 0 rfl) ?_
  refine va_get (D := (dC, dI)) (ci := 5) (v := .int (nI (g 10))) (C := RX4) (T := TX4) (N := 29) hx hb hts hinX4 hown hK hP 0 rfl rfl 10 (by decide) (hts (.fieldLink RX4 86 "RenameRowsModel" "rows" "I") (by decide +kernel)) (fun _ h9 => h9) rfl dX4_add_60 ?_
  refine lv_iload hx hb dX4_add_63 (lv_at hl 4 rfl) ?_
  refine ar_st (D := (dC, dI)) (n := 64) (f := h 16) hx hb hK hP hD hS 10 0 rfl rfl (by omega) (by omega) dX4_add_65 (fun H locs hP hD hS => ?_)
  have hP : va_P (dC, dI) vwCl (wM cs b g (uf (uf (uf (uf (uf h 12 (upd (h 12) (g 10) ra)) 13 (upd (h 13) (g 10) rb)) 14 (upd (h 14) (g 10) rg)) 15 (upd (h 15) (g 10) (h 4 r))) 16 (upd (h 16) (g 10) (nI r)))) H := hP
  have hD : va_D A (wM cs b g (uf (uf (uf (uf (uf h 12 (upd (h 12) (g 10) ra)) 13 (upd (h 13) (g 10) rb)) 14 (upd (h 14) (g 10) rg)) 15 (upd (h 15) (g 10) (h 4 r))) 16 (upd (h 16) (g 10) (nI r)))) := hD
  refine lv_aload_n hx hb dX4_add_66 rfl (lv_at hl 0 rfl) ?_
  refine va_get (D := (dC, dI)) (ci := 5) (v := .ref (b 17)) (C := RX4) (T := TX4) (N := 29) hx hb hts hinX4 hown hK hP 0 rfl rfl 17 (by decide) (hts (.fieldLink RX4 41 "RenameRowsModel" "ports" "[I") (by decide +kernel)) (fun _ h9 => h9) rfl dX4_add_67 ?_
  refine lv_aload_n hx hb dX4_add_70 rfl (lv_at hl 0 rfl) ?_
  refine va_get (D := (dC, dI)) (ci := 5) (v := .int (nI (g 10))) (C := RX4) (T := TX4) (N := 29) hx hb hts hinX4 hown hK hP 0 rfl rfl 10 (by decide) (hts (.fieldLink RX4 86 "RenameRowsModel" "rows" "I") (by decide +kernel)) (fun _ h9 => h9) rfl dX4_add_71 ?_
  refine lv_iconst (v := nI 0) hx hb dX4_add_74 (by decide) ?_
  refine ar_st (D := (dC, dI)) (n := 64) (f := h 17) hx hb hK hP hD hS 11 0 rfl rfl (by omega) (by omega) dX4_add_75 (fun H locs hP hD hS => ?_)
  have hP : va_P (dC, dI) vwCl (wM cs b g (uf (uf (uf (uf (uf (uf h 12 (upd (h 12) (g 10) ra)) 13 (upd (h 13) (g 10) rb)) 14 (upd (h 14) (g 10) rg)) 15 (upd (h 15) (g 10) (h 4 r))) 16 (upd (h 16) (g 10) (nI r))) 17 (upd (h 17) (g 10) (nI 0)))) H := hP
  have hD : va_D A (wM cs b g (uf (uf (uf (uf (uf (uf h 12 (upd (h 12) (g 10) ra)) 13 (upd (h 13) (g 10) rb)) 14 (upd (h 14) (g 10) rg)) 15 (upd (h 15) (g 10) (h 4 r))) 16 (upd (h 16) (g 10) (nI r))) 17 (upd (h 17) (g 10) (nI 0)))) := hD
  refine lv_aload_n hx hb dX4_add_76 rfl (lv_at hl 0 rfl) ?_
  refine va_get (D := (dC, dI)) (ci := 5) (v := .ref (b 18)) (C := RX4) (T := TX4) (N := 29) hx hb hts hinX4 hown hK hP 0 rfl rfl 18 (by decide) (hts (.fieldLink RX4 44 "RenameRowsModel" "state" "[I") (by decide +kernel)) (fun _ h9 => h9) rfl dX4_add_77 ?_
  refine lv_aload_n hx hb dX4_add_80 rfl (lv_at hl 0 rfl) ?_
  refine va_get (D := (dC, dI)) (ci := 5) (v := .int (nI (g 10))) (C := RX4) (T := TX4) (N := 29) hx hb hts hinX4 hown hK hP 0 rfl rfl 10 (by decide) (hts (.fieldLink RX4 86 "RenameRowsModel" "rows" "I") (by decide +kernel)) (fun _ h9 => h9) rfl dX4_add_81 ?_
  refine lv_iload hx hb dX4_add_84 (lv_at hl 5 rfl) ?_
  refine ar_st (D := (dC, dI)) (n := 64) (f := h 18) hx hb hK hP hD hS 12 0 rfl rfl (by omega) (by omega) dX4_add_86 (fun H locs hP hD hS => ?_)
  have hP : va_P (dC, dI) vwCl (wM cs b g (uf (uf (uf (uf (uf (uf (uf h 12 (upd (h 12) (g 10) ra)) 13 (upd (h 13) (g 10) rb)) 14 (upd (h 14) (g 10) rg)) 15 (upd (h 15) (g 10) (h 4 r))) 16 (upd (h 16) (g 10) (nI r))) 17 (upd (h 17) (g 10) (nI 0))) 18 (upd (h 18) (g 10) rs))) H := hP
  have hD : va_D A (wM cs b g (uf (uf (uf (uf (uf (uf (uf h 12 (upd (h 12) (g 10) ra)) 13 (upd (h 13) (g 10) rb)) 14 (upd (h 14) (g 10) rg)) 15 (upd (h 15) (g 10) (h 4 r))) 16 (upd (h 16) (g 10) (nI r))) 17 (upd (h 17) (g 10) (nI 0))) 18 (upd (h 18) (g 10) rs))) := hD
  refine lv_iload hx hb dX4_add_87 (lv_at hl 4 rfl) ?_
  refine lv_if_lt (tgt := 100) hx hb dX4_add_89 (by decide) (fun c => absurd c (nI_pos (by omega))) (fun _ => ?_)
  refine lv_aload_n hx hb dX4_add_92 rfl (lv_at hl 0 rfl) ?_
  refine va_get (D := (dC, dI)) (ci := 5) (v := .ref (b 4)) (C := RX4) (T := TX4) (N := 29) hx hb hts hinX4 hown hK hP 0 rfl rfl 4 (by decide) (hts (.fieldLink RX4 7 "RenameRowsModel" "name" "[I") (by decide +kernel)) (fun _ h9 => h9) rfl dX4_add_93 ?_
  refine lv_iload hx hb dX4_add_96 (lv_at hl 4 rfl) ?_
  refine lv_iload_n hx hb dX4_add_98 rfl (lv_at hl 3 rfl) ?_
  refine ar_st (D := (dC, dI)) (n := 32) (f := h 4) hx hb hK hP hD hS 1 0 rfl rfl (by omega) (by omega) dX4_add_99 (fun H locs hP hD hS => ?_)
  have hP : va_P (dC, dI) vwCl (wM cs b g (uf (uf (uf (uf (uf (uf (uf (uf h 12 (upd (h 12) (g 10) ra)) 13 (upd (h 13) (g 10) rb)) 14 (upd (h 14) (g 10) rg)) 15 (upd (h 15) (g 10) (h 4 r))) 16 (upd (h 16) (g 10) (nI r))) 17 (upd (h 17) (g 10) (nI 0))) 18 (upd (h 18) (g 10) rs)) 4 (upd (h 4) r rg))) H := hP
  have hD : va_D A (wM cs b g (uf (uf (uf (uf (uf (uf (uf (uf h 12 (upd (h 12) (g 10) ra)) 13 (upd (h 13) (g 10) rb)) 14 (upd (h 14) (g 10) rg)) 15 (upd (h 15) (g 10) (h 4 r))) 16 (upd (h 16) (g 10) (nI r))) 17 (upd (h 17) (g 10) (nI 0))) 18 (upd (h 18) (g 10) rs)) 4 (upd (h 4) r rg))) := hD
  refine lv_aload_n hx hb dX4_add_100 rfl (lv_at hl 0 rfl) ?_
  refine lv_dup hx hb dX4_add_101 rfl ?_
  refine va_get (D := (dC, dI)) (ci := 5) (v := .int (nI (g 10))) (C := RX4) (T := TX4) (N := 29) hx hb hts hinX4 hown hK hP 0 rfl rfl 10 (by decide) (hts (.fieldLink RX4 86 "RenameRowsModel" "rows" "I") (by decide +kernel)) (fun _ h9 => h9) rfl dX4_add_102 ?_
  refine lv_iconst (v := nI 1) hx hb dX4_add_105 (by decide) ?_
  refine lv_iadd hx hb dX4_add_106 ?_
  refine tp_eq (nI_add (g 10) 1) ?_
  refine va_put (D := (dC, dI)) (ci := 5) (v := .int (nI ((g 10) + 1))) (ty := .int) (C := RX4) (T := TX4) (N := 29) hx hb hts hinX4 tyX4 tyX4_ok nmX4 hown hK hP hD hS 0 rfl rfl 10 (by decide) (hts (.fieldLink RX4 86 "RenameRowsModel" "rows" "I") (by decide +kernel)) (fun _ h9 => h9) rfl (by decide +kernel) rfl rfl (Nat.le_of_ble_eq_true rfl) dX4_add_107 (fun H locs hP hD hS => ?_)
  have hP : va_P (dC, dI) vwCl (wM cs b (un g 10 ((g 10) + 1)) (uf (uf (uf (uf (uf (uf (uf (uf h 12 (upd (h 12) (g 10) ra)) 13 (upd (h 13) (g 10) rb)) 14 (upd (h 14) (g 10) rg)) 15 (upd (h 15) (g 10) (h 4 r))) 16 (upd (h 16) (g 10) (nI r))) 17 (upd (h 17) (g 10) (nI 0))) 18 (upd (h 18) (g 10) rs)) 4 (upd (h 4) r rg))) H := hP
  have hD : va_D A (wM cs b (un g 10 ((g 10) + 1)) (uf (uf (uf (uf (uf (uf (uf (uf h 12 (upd (h 12) (g 10) ra)) 13 (upd (h 13) (g 10) rb)) 14 (upd (h 14) (g 10) rg)) 15 (upd (h 15) (g 10) (h 4 r))) 16 (upd (h 16) (g 10) (nI r))) 17 (upd (h 17) (g 10) (nI 0))) 18 (upd (h 18) (g 10) rs)) 4 (upd (h 4) r rg))) := hD
  have hB : m_bd (un g 10 ((g 10) + 1)) := by (unfold m_bd un; simp; omega)
  refine lv_aload_n hx hb dX4_add_110 rfl (lv_at hl 0 rfl) ?_
  refine lv_aload_n hx hb dX4_add_111 rfl (lv_at hl 0 rfl) ?_
  refine va_get (D := (dC, dI)) (ci := 5) (v := .int (nI ((g 10) + 1))) (C := RX4) (T := TX4) (N := 29) hx hb hts hinX4 hown hK hP 0 rfl rfl 10 (by decide) (hts (.fieldLink RX4 86 "RenameRowsModel" "rows" "I") (by decide +kernel)) (fun _ h9 => h9) rfl dX4_add_112 ?_
  refine lv_iconst (v := nI 1) hx hb dX4_add_115 (by decide) ?_
  refine lv_isub hx hb dX4_add_116 ?_
  refine tp_eq (pk_sub (by omega)) ?_
  refine W.callR (W.runV (As := [.int (nI (((g 10) + 1) - 1))]) (rest := []) ⟨hx, hb, hml, hown, hts⟩ (c_X4_placeOf l dC dI cs b (un g 10 ((g 10) + 1)) (uf (uf (uf (uf (uf (uf (uf (uf h 12 (upd (h 12) (g 10) ra)) 13 (upd (h 13) (g 10) rb)) 14 (upd (h 14) (g 10) rg)) 15 (upd (h 15) (g 10) (h 4 r))) 16 (upd (h 16) (g 10) (nI r))) 17 (upd (h 17) (g 10) (nI 0))) 18 (upd (h 18) (g 10) rs)) 4 (upd (h 4) r rg)) (((g 10) + 1) - 1) hB (by first | omega | assumption)) (cwV 1 hts gX4_add_X4_placeOf rfl rfl rfl (by decide +kernel) ⟨Nat.le_of_ble_eq_true rfl, Nat.le_of_ble_eq_true rfl⟩) (rd_preV (q := (RX4, TX4, 29)) hP hK 0 rfl rfl) rfl rfl hl.1 rfl (lv_room (Nat.le_of_ble_eq_true rfl)) dX4_add_117 ⟨Nat.zero_le _, Nat.zero_le _⟩) ?_
  refine W.eq (g2 := F0 m 120 ls (.int (nI (m_pos (un g 10 ((g 10) + 1)) (((g 10) + 1) - 1))) :: [])) rfl ?_
  have k_3 := m_pos_lt (g := (un g 10 ((g 10) + 1))) (j := (((g 10) + 1) - 1)) (by first | omega | exact M5)
  have hP : va_P (dC, dI) vwCl (wM cs b (un g 10 ((g 10) + 1)) (uf (m_aF g h ra rb rg (h 4 r) (nI r) rs) 4 (upd (h 4) r rg))) H := by
    have e9 : (wM cs b (un g 10 ((g 10) + 1)) (uf (uf (uf (uf (uf (uf (uf (uf h 12 (upd (h 12) (g 10) ra)) 13 (upd (h 13) (g 10) rb)) 14 (upd (h 14) (g 10) rg)) 15 (upd (h 15) (g 10) (h 4 r))) 16 (upd (h 16) (g 10) (nI r))) 17 (upd (h 17) (g 10) (nI 0))) 18 (upd (h 18) (g 10) rs)) 4 (upd (h 4) r rg))) = (wM cs b (un g 10 ((g 10) + 1)) (uf (m_aF g h ra rb rg (h 4 r) (nI r) rs) 4 (upd (h 4) r rg))) := by first | rfl | exact congrArg nI (by simp [m_pos, un])
    rw [← e9]; exact hP
  refine tp_eq (show _ = nI (m_pos g (g 10)) by first | rfl | exact congrArg nI (by simp [m_pos, un])) ?_
  exact wr_iret hx hb hr hlocks hP hS dX4_add_120

set_option maxHeartbeats 4000000 in
set_option maxRecDepth 100000 in
theorem c_X4_shift (l : Launch) (dC : Nat → ClassId) (dI : Nat → Nat → Nat) (cs : ClassId × ClassId) (b g : Nat → Nat) (h : Nat → Nat → Int32) (sz : Nat) (hB : m_bd g) (h1 : 0 < g 10)  : Met l yX4_shift wsX4_shift ({ frames := 0, cells := 0, slots := 0, locals := 0 }) (wrPc (dC, dI) vwCl (wM cs b g h) (tyl cs) sz [.ref (b 0)]) (wrQ (dC, dI) vwCl (wM cs b (un (un g 10 ((g 10) - 1)) 11 (((g 11) + 1) % (g 3))) (m_sh h (((g 10) - 1)))) none (va_A (wM cs b g h) sz)) 0 0 (va_A (wM cs b g h) sz) := by
  refine wr_of (cc := cX4_shift) (maxL := 2) (ret := none) (own := RX4) (by decide) rfl rfl (Nat.le_of_ble_eq_true rfl) ?_
  intro p e s m below meth c A hsz hAe hx hb hr hml hts hown hlocks hP hK hD hA hS ls hl
  have hl : lv_has ls 2 [(0, .ref (b 0))] := hl
  have hinX4 : ∀ w ∈ wsX40, w ∈ wsX4_shift := by decide +kernel
  obtain ⟨M1, M2, M3, M4, M5, M6, M7, M8, M9, M10, M11, M12, M13, M14, M15, M16⟩ := id hB
  refine lv_aload_n hx hb dX4_shift_0 rfl (lv_at hl 0 rfl) ?_
  refine lv_dup hx hb dX4_shift_1 rfl ?_
  refine va_get (D := (dC, dI)) (ci := 5) (v := .int (nI (g 10))) (C := RX4) (T := TX4) (N := 29) hx hb hts hinX4 hown hK hP 0 rfl rfl 10 (by decide) (hts (.fieldLink RX4 86 "RenameRowsModel" "rows" "I") (by decide +kernel)) (fun _ h9 => h9) rfl dX4_shift_2 ?_
  refine lv_iconst (v := nI 1) hx hb dX4_shift_5 (by decide) ?_
  refine lv_isub hx hb dX4_shift_6 ?_
  refine tp_eq (pk_sub (by omega)) ?_
  refine va_put (D := (dC, dI)) (ci := 5) (v := .int (nI ((g 10) - 1))) (ty := .int) (C := RX4) (T := TX4) (N := 29) hx hb hts hinX4 tyX4 tyX4_ok nmX4 hown hK hP hD hS 0 rfl rfl 10 (by decide) (hts (.fieldLink RX4 86 "RenameRowsModel" "rows" "I") (by decide +kernel)) (fun _ h9 => h9) rfl (by decide +kernel) rfl rfl (Nat.le_of_ble_eq_true rfl) dX4_shift_7 (fun H locs hP hD hS => ?_)
  have hP : va_P (dC, dI) vwCl (wM cs b (un g 10 ((g 10) - 1)) h) H := hP
  have hD : va_D A (wM cs b (un g 10 ((g 10) - 1)) h) := hD
  refine lv_aload_n hx hb dX4_shift_10 rfl (lv_at hl 0 rfl) ?_
  refine lv_aload_n hx hb dX4_shift_11 rfl (lv_at hl 0 rfl) ?_
  refine va_get (D := (dC, dI)) (ci := 5) (v := .int (nI (g 11))) (C := RX4) (T := TX4) (N := 29) hx hb hts hinX4 hown hK hP 0 rfl rfl 11 (by decide) (hts (.fieldLink RX4 83 "RenameRowsModel" "head" "I") (by decide +kernel)) (fun _ h9 => h9) rfl dX4_shift_12 ?_
  refine lv_iconst (v := nI 1) hx hb dX4_shift_15 (by decide) ?_
  refine lv_iadd hx hb dX4_shift_16 ?_
  refine tp_eq (nI_add (g 11) 1) ?_
  refine lv_aload_n hx hb dX4_shift_17 rfl (lv_at hl 0 rfl) ?_
  refine va_get (D := (dC, dI)) (ci := 5) (v := .int (nI (g 3))) (C := RX4) (T := TX4) (N := 29) hx hb hts hinX4 hown hK hP 0 rfl rfl 3 (by decide) (hts (.fieldLink RX4 70 "RenameRowsModel" "places" "I") (by decide +kernel)) (fun _ h9 => h9) rfl dX4_shift_18 ?_
  refine lv_irem hx hb dX4_shift_21 (nI_ne0 (by omega) (by omega)) ?_
  refine tp_eq (pk_rem (by omega) (by omega) (by omega)) ?_
  refine va_put (D := (dC, dI)) (ci := 5) (v := .int (nI (((g 11) + 1) % (g 3)))) (ty := .int) (C := RX4) (T := TX4) (N := 29) hx hb hts hinX4 tyX4 tyX4_ok nmX4 hown hK hP hD hS 0 rfl rfl 11 (by decide) (hts (.fieldLink RX4 83 "RenameRowsModel" "head" "I") (by decide +kernel)) (fun _ h9 => h9) rfl (by decide +kernel) rfl rfl (Nat.le_of_ble_eq_true rfl) dX4_shift_22 (fun H locs hP hD hS => ?_)
  have hP : va_P (dC, dI) vwCl (wM cs b (un (un g 10 ((g 10) - 1)) 11 (((g 11) + 1) % (g 3))) h) H := hP
  have hD : va_D A (wM cs b (un (un g 10 ((g 10) - 1)) 11 (((g 11) + 1) % (g 3))) h) := hD
  refine lv_iconst (v := nI 0) hx hb dX4_shift_25 (by decide) ?_
  refine lv_istore_n (lv' := [(1, .int (nI 0)), (0, .ref (b 0))]) hx hb dX4_shift_26 rfl hl (by decide) rfl (fun ls hl => ?_)
  have hP : va_P (dC, dI) vwCl (wM cs b (un (un g 10 (g 10 - 1)) 11 ((g 11 + 1) % g 3)) (m_sh h 0)) H := by
    unfold m_sh; simp only [x_sl_0]; exact hP
  have hD : va_D A (wM cs b (un (un g 10 (g 10 - 1)) 11 ((g 11 + 1) % g 3)) (m_sh h 0)) := hD.same rfl
  have key : ∀ (k u : Nat), u + k = g 10 - 1 → ∀ (H : Heap) (locs : List Loc), va_P (dC, dI) vwCl (wM cs b (un (un g 10 (g 10 - 1)) 11 ((g 11 + 1) % g 3)) (m_sh h u)) H → va_D A (wM cs b (un (un g 10 (g 10 - 1)) 11 ((g 11 + 1) % g 3)) (m_sh h u)) → va_S A s.heap H locs → ∀ ls : Array Slot, lv_has ls 2 [(1, .int (nI u)), (0, .ref (b 0))] → W p l e ({ frames := 0, cells := 0, slots := 0, locals := 0 } : Room) s m ([.ref (b 0)] : List Value).toArray below meth c H locs 0 0 (MQ below (wrQ (dC, dI) vwCl (wM cs b (un (un g 10 ((g 10) - 1)) 11 (((g 11) + 1) % (g 3))) (m_sh h (((g 10) - 1)))) none A) ([.ref (b 0)] : List Value).toArray s 0 0 A) (F0 m 27 ls []) := by
    intro k
    induction k with
    | zero =>
      intro u hu H locs hP hD hS ls hl
      refine lv_iload_n hx hb dX4_shift_27 rfl (lv_at hl 0 rfl) ?_
      refine lv_aload_n hx hb dX4_shift_28 rfl (lv_at hl 1 rfl) ?_
      refine va_get (D := (dC, dI)) (ci := 5) (v := .int (nI (g 10 - 1))) (C := RX4) (T := TX4) (N := 29) hx hb hts hinX4 hown hK hP 0 rfl rfl 10 (by decide) (hts (.fieldLink RX4 86 "RenameRowsModel" "rows" "I") (by decide +kernel)) (fun _ h9 => h9) rfl dX4_shift_29 ?_
      refine lv_icmp_ge (tgt := 139) hx hb dX4_shift_32 (by decide) (fun c_1 => ?_) (fun c_1 => absurd (nI_le (by omega) (by omega)) c_1)
      have c_1 : (g 10 - 1) ≤ u := (nI_leI (by omega) (by omega)).mp c_1
      have hu3 : u = g 10 - 1 := by omega
      have hP : va_P (dC, dI) vwCl (wM cs b (un (un g 10 ((g 10) - 1)) 11 (((g 11) + 1) % (g 3))) (m_sh h (((g 10) - 1)))) H := by
        have e9 : (wM cs b (un (un g 10 (g 10 - 1)) 11 ((g 11 + 1) % g 3)) (m_sh h u)) = (wM cs b (un (un g 10 ((g 10) - 1)) 11 (((g 11) + 1) % (g 3))) (m_sh h (((g 10) - 1)))) := by rw [hu3]; first | done | rfl
        rw [← e9]; exact hP
      exact wr_vret hx hb hr hlocks hP hS dX4_shift_139
    | succ k ih =>
      intro u hu H locs hP hD hS ls hl
      refine lv_iload_n hx hb dX4_shift_27 rfl (lv_at hl 0 rfl) ?_
      refine lv_aload_n hx hb dX4_shift_28 rfl (lv_at hl 1 rfl) ?_
      refine va_get (D := (dC, dI)) (ci := 5) (v := .int (nI (g 10 - 1))) (C := RX4) (T := TX4) (N := 29) hx hb hts hinX4 hown hK hP 0 rfl rfl 10 (by decide) (hts (.fieldLink RX4 86 "RenameRowsModel" "rows" "I") (by decide +kernel)) (fun _ h9 => h9) rfl dX4_shift_29 ?_
      refine lv_icmp_ge (tgt := 139) hx hb dX4_shift_32 (by decide) (fun c_2 => absurd ((nI_leI (by omega) (by omega)).mp c_2) (by omega)) (fun c_2 => ?_)
      have c_2 : ¬ (g 10 - 1) ≤ u := fun q => c_2 ((nI_leI (by omega) (by omega)).mpr q)
      refine lv_aload_n hx hb dX4_shift_35 rfl (lv_at hl 1 rfl) ?_
      refine va_get (D := (dC, dI)) (ci := 5) (v := .ref (b 12)) (C := RX4) (T := TX4) (N := 29) hx hb hts hinX4 hown hK hP 0 rfl rfl 12 (by decide) (hts (.fieldLink RX4 26 "RenameRowsModel" "first" "[I") (by decide +kernel)) (fun _ h9 => h9) rfl dX4_shift_36 ?_
      refine lv_iload_n hx hb dX4_shift_39 rfl (lv_at hl 0 rfl) ?_
      refine lv_aload_n hx hb dX4_shift_40 rfl (lv_at hl 1 rfl) ?_
      refine va_get (D := (dC, dI)) (ci := 5) (v := .ref (b 12)) (C := RX4) (T := TX4) (N := 29) hx hb hts hinX4 hown hK hP 0 rfl rfl 12 (by decide) (hts (.fieldLink RX4 26 "RenameRowsModel" "first" "[I") (by decide +kernel)) (fun _ h9 => h9) rfl dX4_shift_41 ?_
      refine lv_iload_n hx hb dX4_shift_44 rfl (lv_at hl 0 rfl) ?_
      refine lv_iconst (v := nI 1) hx hb dX4_shift_45 (by decide) ?_
      refine lv_iadd hx hb dX4_shift_46 ?_
      refine tp_eq (nI_add u 1) ?_
      refine ar_ld (D := (dC, dI)) (n := 64) (f := (x_sl (h 12) 0 u)) hx hb hK hP 6 0 rfl rfl (by omega) (by omega) dX4_shift_47 ?_
      refine ar_st (D := (dC, dI)) (n := 64) (f := (x_sl (h 12) 0 u)) hx hb hK hP hD hS 6 0 rfl rfl (by omega) (by omega) dX4_shift_48 (fun H locs hP hD hS => ?_)
      have hP : va_P (dC, dI) vwCl (wM cs b (un (un g 10 (g 10 - 1)) 11 ((g 11 + 1) % g 3)) (uf (m_sh h u) 12 (upd (x_sl (h 12) 0 u) u ((x_sl (h 12) 0 u) (u + 1))))) H := hP
      have hD : va_D A (wM cs b (un (un g 10 (g 10 - 1)) 11 ((g 11 + 1) % g 3)) (uf (m_sh h u) 12 (upd (x_sl (h 12) 0 u) u ((x_sl (h 12) 0 u) (u + 1))))) := hD
      refine lv_aload_n hx hb dX4_shift_49 rfl (lv_at hl 1 rfl) ?_
      refine va_get (D := (dC, dI)) (ci := 5) (v := .ref (b 13)) (C := RX4) (T := TX4) (N := 29) hx hb hts hinX4 hown hK hP 0 rfl rfl 13 (by decide) (hts (.fieldLink RX4 29 "RenameRowsModel" "second" "[I") (by decide +kernel)) (fun _ h9 => h9) rfl dX4_shift_50 ?_
      refine lv_iload_n hx hb dX4_shift_53 rfl (lv_at hl 0 rfl) ?_
      refine lv_aload_n hx hb dX4_shift_54 rfl (lv_at hl 1 rfl) ?_
      refine va_get (D := (dC, dI)) (ci := 5) (v := .ref (b 13)) (C := RX4) (T := TX4) (N := 29) hx hb hts hinX4 hown hK hP 0 rfl rfl 13 (by decide) (hts (.fieldLink RX4 29 "RenameRowsModel" "second" "[I") (by decide +kernel)) (fun _ h9 => h9) rfl dX4_shift_55 ?_
      refine lv_iload_n hx hb dX4_shift_58 rfl (lv_at hl 0 rfl) ?_
      refine lv_iconst (v := nI 1) hx hb dX4_shift_59 (by decide) ?_
      refine lv_iadd hx hb dX4_shift_60 ?_
      refine tp_eq (nI_add u 1) ?_
      refine ar_ld (D := (dC, dI)) (n := 64) (f := (x_sl (h 13) 0 u)) hx hb hK hP 7 0 rfl rfl (by omega) (by omega) dX4_shift_61 ?_
      refine ar_st (D := (dC, dI)) (n := 64) (f := (x_sl (h 13) 0 u)) hx hb hK hP hD hS 7 0 rfl rfl (by omega) (by omega) dX4_shift_62 (fun H locs hP hD hS => ?_)
      have hP : va_P (dC, dI) vwCl (wM cs b (un (un g 10 (g 10 - 1)) 11 ((g 11 + 1) % g 3)) (uf (uf (m_sh h u) 12 (upd (x_sl (h 12) 0 u) u ((x_sl (h 12) 0 u) (u + 1)))) 13 (upd (x_sl (h 13) 0 u) u ((x_sl (h 13) 0 u) (u + 1))))) H := hP
      have hD : va_D A (wM cs b (un (un g 10 (g 10 - 1)) 11 ((g 11 + 1) % g 3)) (uf (uf (m_sh h u) 12 (upd (x_sl (h 12) 0 u) u ((x_sl (h 12) 0 u) (u + 1)))) 13 (upd (x_sl (h 13) 0 u) u ((x_sl (h 13) 0 u) (u + 1))))) := hD
      refine lv_aload_n hx hb dX4_shift_63 rfl (lv_at hl 1 rfl) ?_
      refine va_get (D := (dC, dI)) (ci := 5) (v := .ref (b 14)) (C := RX4) (T := TX4) (N := 29) hx hb hts hinX4 hown hK hP 0 rfl rfl 14 (by decide) (hts (.fieldLink RX4 32 "RenameRowsModel" "gave" "[I") (by decide +kernel)) (fun _ h9 => h9) rfl dX4_shift_64 ?_
      refine lv_iload_n hx hb dX4_shift_67 rfl (lv_at hl 0 rfl) ?_
      refine lv_aload_n hx hb dX4_shift_68 rfl (lv_at hl 1 rfl) ?_
      refine va_get (D := (dC, dI)) (ci := 5) (v := .ref (b 14)) (C := RX4) (T := TX4) (N := 29) hx hb hts hinX4 hown hK hP 0 rfl rfl 14 (by decide) (hts (.fieldLink RX4 32 "RenameRowsModel" "gave" "[I") (by decide +kernel)) (fun _ h9 => h9) rfl dX4_shift_69 ?_
      refine lv_iload_n hx hb dX4_shift_72 rfl (lv_at hl 0 rfl) ?_
      refine lv_iconst (v := nI 1) hx hb dX4_shift_73 (by decide) ?_
      refine lv_iadd hx hb dX4_shift_74 ?_
      refine tp_eq (nI_add u 1) ?_
      refine ar_ld (D := (dC, dI)) (n := 64) (f := (x_sl (h 14) 0 u)) hx hb hK hP 8 0 rfl rfl (by omega) (by omega) dX4_shift_75 ?_
      refine ar_st (D := (dC, dI)) (n := 64) (f := (x_sl (h 14) 0 u)) hx hb hK hP hD hS 8 0 rfl rfl (by omega) (by omega) dX4_shift_76 (fun H locs hP hD hS => ?_)
      have hP : va_P (dC, dI) vwCl (wM cs b (un (un g 10 (g 10 - 1)) 11 ((g 11 + 1) % g 3)) (uf (uf (uf (m_sh h u) 12 (upd (x_sl (h 12) 0 u) u ((x_sl (h 12) 0 u) (u + 1)))) 13 (upd (x_sl (h 13) 0 u) u ((x_sl (h 13) 0 u) (u + 1)))) 14 (upd (x_sl (h 14) 0 u) u ((x_sl (h 14) 0 u) (u + 1))))) H := hP
      have hD : va_D A (wM cs b (un (un g 10 (g 10 - 1)) 11 ((g 11 + 1) % g 3)) (uf (uf (uf (m_sh h u) 12 (upd (x_sl (h 12) 0 u) u ((x_sl (h 12) 0 u) (u + 1)))) 13 (upd (x_sl (h 13) 0 u) u ((x_sl (h 13) 0 u) (u + 1)))) 14 (upd (x_sl (h 14) 0 u) u ((x_sl (h 14) 0 u) (u + 1))))) := hD
      refine lv_aload_n hx hb dX4_shift_77 rfl (lv_at hl 1 rfl) ?_
      refine va_get (D := (dC, dI)) (ci := 5) (v := .ref (b 15)) (C := RX4) (T := TX4) (N := 29) hx hb hts hinX4 hown hK hP 0 rfl rfl 15 (by decide) (hts (.fieldLink RX4 35 "RenameRowsModel" "knew" "[I") (by decide +kernel)) (fun _ h9 => h9) rfl dX4_shift_78 ?_
      refine lv_iload_n hx hb dX4_shift_81 rfl (lv_at hl 0 rfl) ?_
      refine lv_aload_n hx hb dX4_shift_82 rfl (lv_at hl 1 rfl) ?_
      refine va_get (D := (dC, dI)) (ci := 5) (v := .ref (b 15)) (C := RX4) (T := TX4) (N := 29) hx hb hts hinX4 hown hK hP 0 rfl rfl 15 (by decide) (hts (.fieldLink RX4 35 "RenameRowsModel" "knew" "[I") (by decide +kernel)) (fun _ h9 => h9) rfl dX4_shift_83 ?_
      refine lv_iload_n hx hb dX4_shift_86 rfl (lv_at hl 0 rfl) ?_
      refine lv_iconst (v := nI 1) hx hb dX4_shift_87 (by decide) ?_
      refine lv_iadd hx hb dX4_shift_88 ?_
      refine tp_eq (nI_add u 1) ?_
      refine ar_ld (D := (dC, dI)) (n := 64) (f := (x_sl (h 15) 0 u)) hx hb hK hP 9 0 rfl rfl (by omega) (by omega) dX4_shift_89 ?_
      refine ar_st (D := (dC, dI)) (n := 64) (f := (x_sl (h 15) 0 u)) hx hb hK hP hD hS 9 0 rfl rfl (by omega) (by omega) dX4_shift_90 (fun H locs hP hD hS => ?_)
      have hP : va_P (dC, dI) vwCl (wM cs b (un (un g 10 (g 10 - 1)) 11 ((g 11 + 1) % g 3)) (uf (uf (uf (uf (m_sh h u) 12 (upd (x_sl (h 12) 0 u) u ((x_sl (h 12) 0 u) (u + 1)))) 13 (upd (x_sl (h 13) 0 u) u ((x_sl (h 13) 0 u) (u + 1)))) 14 (upd (x_sl (h 14) 0 u) u ((x_sl (h 14) 0 u) (u + 1)))) 15 (upd (x_sl (h 15) 0 u) u ((x_sl (h 15) 0 u) (u + 1))))) H := hP
      have hD : va_D A (wM cs b (un (un g 10 (g 10 - 1)) 11 ((g 11 + 1) % g 3)) (uf (uf (uf (uf (m_sh h u) 12 (upd (x_sl (h 12) 0 u) u ((x_sl (h 12) 0 u) (u + 1)))) 13 (upd (x_sl (h 13) 0 u) u ((x_sl (h 13) 0 u) (u + 1)))) 14 (upd (x_sl (h 14) 0 u) u ((x_sl (h 14) 0 u) (u + 1)))) 15 (upd (x_sl (h 15) 0 u) u ((x_sl (h 15) 0 u) (u + 1))))) := hD
      refine lv_aload_n hx hb dX4_shift_91 rfl (lv_at hl 1 rfl) ?_
      refine va_get (D := (dC, dI)) (ci := 5) (v := .ref (b 16)) (C := RX4) (T := TX4) (N := 29) hx hb hts hinX4 hown hK hP 0 rfl rfl 16 (by decide) (hts (.fieldLink RX4 38 "RenameRowsModel" "register" "[I") (by decide +kernel)) (fun _ h9 => h9) rfl dX4_shift_92 ?_
      refine lv_iload_n hx hb dX4_shift_95 rfl (lv_at hl 0 rfl) ?_
      refine lv_aload_n hx hb dX4_shift_96 rfl (lv_at hl 1 rfl) ?_
      refine va_get (D := (dC, dI)) (ci := 5) (v := .ref (b 16)) (C := RX4) (T := TX4) (N := 29) hx hb hts hinX4 hown hK hP 0 rfl rfl 16 (by decide) (hts (.fieldLink RX4 38 "RenameRowsModel" "register" "[I") (by decide +kernel)) (fun _ h9 => h9) rfl dX4_shift_97 ?_
      refine lv_iload_n hx hb dX4_shift_100 rfl (lv_at hl 0 rfl) ?_
      refine lv_iconst (v := nI 1) hx hb dX4_shift_101 (by decide) ?_
      refine lv_iadd hx hb dX4_shift_102 ?_
      refine tp_eq (nI_add u 1) ?_
      refine ar_ld (D := (dC, dI)) (n := 64) (f := (x_sl (h 16) 0 u)) hx hb hK hP 10 0 rfl rfl (by omega) (by omega) dX4_shift_103 ?_
      refine ar_st (D := (dC, dI)) (n := 64) (f := (x_sl (h 16) 0 u)) hx hb hK hP hD hS 10 0 rfl rfl (by omega) (by omega) dX4_shift_104 (fun H locs hP hD hS => ?_)
      have hP : va_P (dC, dI) vwCl (wM cs b (un (un g 10 (g 10 - 1)) 11 ((g 11 + 1) % g 3)) (uf (uf (uf (uf (uf (m_sh h u) 12 (upd (x_sl (h 12) 0 u) u ((x_sl (h 12) 0 u) (u + 1)))) 13 (upd (x_sl (h 13) 0 u) u ((x_sl (h 13) 0 u) (u + 1)))) 14 (upd (x_sl (h 14) 0 u) u ((x_sl (h 14) 0 u) (u + 1)))) 15 (upd (x_sl (h 15) 0 u) u ((x_sl (h 15) 0 u) (u + 1)))) 16 (upd (x_sl (h 16) 0 u) u ((x_sl (h 16) 0 u) (u + 1))))) H := hP
      have hD : va_D A (wM cs b (un (un g 10 (g 10 - 1)) 11 ((g 11 + 1) % g 3)) (uf (uf (uf (uf (uf (m_sh h u) 12 (upd (x_sl (h 12) 0 u) u ((x_sl (h 12) 0 u) (u + 1)))) 13 (upd (x_sl (h 13) 0 u) u ((x_sl (h 13) 0 u) (u + 1)))) 14 (upd (x_sl (h 14) 0 u) u ((x_sl (h 14) 0 u) (u + 1)))) 15 (upd (x_sl (h 15) 0 u) u ((x_sl (h 15) 0 u) (u + 1)))) 16 (upd (x_sl (h 16) 0 u) u ((x_sl (h 16) 0 u) (u + 1))))) := hD
      refine lv_aload_n hx hb dX4_shift_105 rfl (lv_at hl 1 rfl) ?_
      refine va_get (D := (dC, dI)) (ci := 5) (v := .ref (b 17)) (C := RX4) (T := TX4) (N := 29) hx hb hts hinX4 hown hK hP 0 rfl rfl 17 (by decide) (hts (.fieldLink RX4 41 "RenameRowsModel" "ports" "[I") (by decide +kernel)) (fun _ h9 => h9) rfl dX4_shift_106 ?_
      refine lv_iload_n hx hb dX4_shift_109 rfl (lv_at hl 0 rfl) ?_
      refine lv_aload_n hx hb dX4_shift_110 rfl (lv_at hl 1 rfl) ?_
      refine va_get (D := (dC, dI)) (ci := 5) (v := .ref (b 17)) (C := RX4) (T := TX4) (N := 29) hx hb hts hinX4 hown hK hP 0 rfl rfl 17 (by decide) (hts (.fieldLink RX4 41 "RenameRowsModel" "ports" "[I") (by decide +kernel)) (fun _ h9 => h9) rfl dX4_shift_111 ?_
      refine lv_iload_n hx hb dX4_shift_114 rfl (lv_at hl 0 rfl) ?_
      refine lv_iconst (v := nI 1) hx hb dX4_shift_115 (by decide) ?_
      refine lv_iadd hx hb dX4_shift_116 ?_
      refine tp_eq (nI_add u 1) ?_
      refine ar_ld (D := (dC, dI)) (n := 64) (f := (x_sl (h 17) 0 u)) hx hb hK hP 11 0 rfl rfl (by omega) (by omega) dX4_shift_117 ?_
      refine ar_st (D := (dC, dI)) (n := 64) (f := (x_sl (h 17) 0 u)) hx hb hK hP hD hS 11 0 rfl rfl (by omega) (by omega) dX4_shift_118 (fun H locs hP hD hS => ?_)
      have hP : va_P (dC, dI) vwCl (wM cs b (un (un g 10 (g 10 - 1)) 11 ((g 11 + 1) % g 3)) (uf (uf (uf (uf (uf (uf (m_sh h u) 12 (upd (x_sl (h 12) 0 u) u ((x_sl (h 12) 0 u) (u + 1)))) 13 (upd (x_sl (h 13) 0 u) u ((x_sl (h 13) 0 u) (u + 1)))) 14 (upd (x_sl (h 14) 0 u) u ((x_sl (h 14) 0 u) (u + 1)))) 15 (upd (x_sl (h 15) 0 u) u ((x_sl (h 15) 0 u) (u + 1)))) 16 (upd (x_sl (h 16) 0 u) u ((x_sl (h 16) 0 u) (u + 1)))) 17 (upd (x_sl (h 17) 0 u) u ((x_sl (h 17) 0 u) (u + 1))))) H := hP
      have hD : va_D A (wM cs b (un (un g 10 (g 10 - 1)) 11 ((g 11 + 1) % g 3)) (uf (uf (uf (uf (uf (uf (m_sh h u) 12 (upd (x_sl (h 12) 0 u) u ((x_sl (h 12) 0 u) (u + 1)))) 13 (upd (x_sl (h 13) 0 u) u ((x_sl (h 13) 0 u) (u + 1)))) 14 (upd (x_sl (h 14) 0 u) u ((x_sl (h 14) 0 u) (u + 1)))) 15 (upd (x_sl (h 15) 0 u) u ((x_sl (h 15) 0 u) (u + 1)))) 16 (upd (x_sl (h 16) 0 u) u ((x_sl (h 16) 0 u) (u + 1)))) 17 (upd (x_sl (h 17) 0 u) u ((x_sl (h 17) 0 u) (u + 1))))) := hD
      refine lv_aload_n hx hb dX4_shift_119 rfl (lv_at hl 1 rfl) ?_
      refine va_get (D := (dC, dI)) (ci := 5) (v := .ref (b 18)) (C := RX4) (T := TX4) (N := 29) hx hb hts hinX4 hown hK hP 0 rfl rfl 18 (by decide) (hts (.fieldLink RX4 44 "RenameRowsModel" "state" "[I") (by decide +kernel)) (fun _ h9 => h9) rfl dX4_shift_120 ?_
      refine lv_iload_n hx hb dX4_shift_123 rfl (lv_at hl 0 rfl) ?_
      refine lv_aload_n hx hb dX4_shift_124 rfl (lv_at hl 1 rfl) ?_
      refine va_get (D := (dC, dI)) (ci := 5) (v := .ref (b 18)) (C := RX4) (T := TX4) (N := 29) hx hb hts hinX4 hown hK hP 0 rfl rfl 18 (by decide) (hts (.fieldLink RX4 44 "RenameRowsModel" "state" "[I") (by decide +kernel)) (fun _ h9 => h9) rfl dX4_shift_125 ?_
      refine lv_iload_n hx hb dX4_shift_128 rfl (lv_at hl 0 rfl) ?_
      refine lv_iconst (v := nI 1) hx hb dX4_shift_129 (by decide) ?_
      refine lv_iadd hx hb dX4_shift_130 ?_
      refine tp_eq (nI_add u 1) ?_
      refine ar_ld (D := (dC, dI)) (n := 64) (f := (x_sl (h 18) 0 u)) hx hb hK hP 12 0 rfl rfl (by omega) (by omega) dX4_shift_131 ?_
      refine ar_st (D := (dC, dI)) (n := 64) (f := (x_sl (h 18) 0 u)) hx hb hK hP hD hS 12 0 rfl rfl (by omega) (by omega) dX4_shift_132 (fun H locs hP hD hS => ?_)
      have hP : va_P (dC, dI) vwCl (wM cs b (un (un g 10 (g 10 - 1)) 11 ((g 11 + 1) % g 3)) (uf (uf (uf (uf (uf (uf (uf (m_sh h u) 12 (upd (x_sl (h 12) 0 u) u ((x_sl (h 12) 0 u) (u + 1)))) 13 (upd (x_sl (h 13) 0 u) u ((x_sl (h 13) 0 u) (u + 1)))) 14 (upd (x_sl (h 14) 0 u) u ((x_sl (h 14) 0 u) (u + 1)))) 15 (upd (x_sl (h 15) 0 u) u ((x_sl (h 15) 0 u) (u + 1)))) 16 (upd (x_sl (h 16) 0 u) u ((x_sl (h 16) 0 u) (u + 1)))) 17 (upd (x_sl (h 17) 0 u) u ((x_sl (h 17) 0 u) (u + 1)))) 18 (upd (x_sl (h 18) 0 u) u ((x_sl (h 18) 0 u) (u + 1))))) H := hP
      have hD : va_D A (wM cs b (un (un g 10 (g 10 - 1)) 11 ((g 11 + 1) % g 3)) (uf (uf (uf (uf (uf (uf (uf (m_sh h u) 12 (upd (x_sl (h 12) 0 u) u ((x_sl (h 12) 0 u) (u + 1)))) 13 (upd (x_sl (h 13) 0 u) u ((x_sl (h 13) 0 u) (u + 1)))) 14 (upd (x_sl (h 14) 0 u) u ((x_sl (h 14) 0 u) (u + 1)))) 15 (upd (x_sl (h 15) 0 u) u ((x_sl (h 15) 0 u) (u + 1)))) 16 (upd (x_sl (h 16) 0 u) u ((x_sl (h 16) 0 u) (u + 1)))) 17 (upd (x_sl (h 17) 0 u) u ((x_sl (h 17) 0 u) (u + 1)))) 18 (upd (x_sl (h 18) 0 u) u ((x_sl (h 18) 0 u) (u + 1))))) := hD
      have hP : va_P (dC, dI) vwCl (wM cs b (un (un g 10 (g 10 - 1)) 11 ((g 11 + 1) % g 3)) (m_sh h (u + 1))) H := by
        unfold m_sh; simp only [← fun q => x_sl_s q (show 0 ≤ u by omega)]; exact hP
      have hD : va_D A (wM cs b (un (un g 10 (g 10 - 1)) 11 ((g 11 + 1) % g 3)) (m_sh h (u + 1))) := hD.same rfl
      refine lv_iinc (v := nI (u + 1)) (lv' := [(1, .int (nI (u + 1))), (0, .ref (b 0))]) hx hb dX4_shift_133 hl (k := 0) rfl (nI_succ u).symm (by decide) rfl (fun ls hl => ?_)
      refine lv_goto (tgt := 27) hx hb dX4_shift_136 (by decide) ?_
      exact ih (u + 1) (by omega) H locs hP hD hS ls (lv_sub hl [0, 1] rfl)
  exact key (g 10 - 1) 0 (by omega) _ _ hP hD hS ls (lv_sub hl [0, 1] rfl)
