set_option maxHeartbeats 4000000 in
set_option maxRecDepth 100000 in
theorem c_X4_wrong_v (l : Launch) (dC : Nat → ClassId) (dI : Nat → Nat → Nat) (cs : ClassId × ClassId) (b g : Nat → Nat) (h : Nat → Nat → Int32) (sz : Nat) (j : Nat) (bv K : Nat) (hmk : ¬ h 19 j = 0) (hbv : h 20 j = nI bv) (hsafe : m_ws K (un g 0 0) h) (hdsf : m_ds j 8 0 (un (m_wk K (un g 0 0) h).1 26 ((m_wk K (un g 0 0) h).1 26 + K)) (m_wk K (un g 0 0) h).2) (hB : m_bd g) (h1 : j < 8) (h2 : g 25 + g 10 = bv + K) (h3 : (m_wk K (un g 0 0) h).1 26 + K < 1000000)  : Met l yX4_wrong wsX4_wrong ({ frames := 1, cells := 0, slots := 0, locals := 23 }) (wrPc (dC, dI) vwCl (wM cs b g h) (tyl cs) sz [.ref (b 0), .int (nI j)]) (wrQ (dC, dI) vwCl (wM cs b (un (m_dl j 8 0 (un (m_wk K (un g 0 0) h).1 26 ((m_wk K (un g 0 0) h).1 26 + K)) (m_wk K (un g 0 0) h).2).1 23 (((m_dl j 8 0 (un (m_wk K (un g 0 0) h).1 26 ((m_wk K (un g 0 0) h).1 26 + K)) (m_wk K (un g 0 0) h).2).1 23) - 1)) (uf (m_dl j 8 0 (un (m_wk K (un g 0 0) h).1 26 ((m_wk K (un g 0 0) h).1 26 + K)) (m_wk K (un g 0 0) h).2).2 19 (upd ((m_dl j 8 0 (un (m_wk K (un g 0 0) h).1 26 ((m_wk K (un g 0 0) h).1 26 + K)) (m_wk K (un g 0 0) h).2).2 19) j (nI 0)))) (some (.int (nI K))) (va_A (wM cs b g h) sz)) 0 0 (va_A (wM cs b g h) sz) := by
  refine wr_of (cc := cX4_wrong) (maxL := 4) (ret := (some .int)) (own := RX4) (by decide) rfl rfl (Nat.le_of_ble_eq_true rfl) ?_
  intro p e s m below meth c A hsz hAe hx hb hr hml hts hown hlocks hP hK hD hA hS ls hl
  have hl : lv_has ls 4 [(0, .ref (b 0)), (1, .int (nI j))] := hl
  have hinX4 : ∀ w ∈ wsX40, w ∈ wsX4_wrong := by decide +kernel
  obtain ⟨M1, M2, M3, M4, M5, M6, M7, M8, M9, M10, M11, M12, M13, M14, M15, M16⟩ := id hB
  refine lv_aload_n hx hb dX4_wrong_0 rfl (lv_at hl 0 rfl) ?_
  refine lv_aload_n hx hb dX4_wrong_1 rfl (lv_at hl 0 rfl) ?_
  refine lv_iload_n hx hb dX4_wrong_2 rfl (lv_at hl 1 rfl) ?_
  refine W.callR (W.runV (As := [.int (nI j)]) (rest := [.ref (b 0)]) ⟨hx, hb, hml, hown, hts⟩ (c_X4_isMark l dC dI cs b g h (nI j) hB) (cwV 1 hts gX4_wrong_X4_isMark rfl rfl rfl (by decide +kernel) ⟨Nat.le_of_ble_eq_true rfl, Nat.le_of_ble_eq_true rfl⟩) (rd_preV (q := (RX4, TX4, 29)) hP hK 0 rfl rfl) rfl rfl hl.1 rfl (lv_room (Nat.le_of_ble_eq_true rfl)) dX4_wrong_3 ⟨Nat.zero_le _, Nat.zero_le _⟩) ?_
  refine W.eq (g2 := F0 m 6 ls (.int (b2i (inB (nI j) 8)) :: [.ref (b 0)])) rfl ?_
  refine lv_if_ne (tgt := 13) hx hb dX4_wrong_6 (by decide) (fun c_1 => ?_) (fun c_1 => absurd (b2i_f c_1) (by rw [inB_nI (by omega) (by omega)]; simp; omega))
  have c_1 : inB (nI j) 8 = true := b2i_t c_1
  refine lv_iconst (v := nI 0) hx hb dX4_wrong_13 (by decide) ?_
  refine lv_aload_n hx hb dX4_wrong_14 rfl (lv_at hl 0 rfl) ?_
  refine va_get (D := (dC, dI)) (ci := 5) (v := .ref (b 19)) (C := RX4) (T := TX4) (N := 29) hx hb hts hinX4 hown hK hP 0 rfl rfl 19 (by decide) (hts (.fieldLink RX4 47 "RenameRowsModel" "marked" "[Z") (by decide +kernel)) (fun _ h9 => h9) rfl dX4_wrong_15 ?_
  refine lv_aload_n hx hb dX4_wrong_18 rfl (lv_at hl 0 rfl) ?_
  refine lv_iload_n hx hb dX4_wrong_19 rfl (lv_at hl 1 rfl) ?_
  refine W.callR (W.runV (As := [.int (nI j)]) (rest := [.ref (b 19), .int (nI 0), .ref (b 0)]) ⟨hx, hb, hml, hown, hts⟩ (c_X4_isMark l dC dI cs b g h (nI j) hB) (cwV 1 hts gX4_wrong_X4_isMark rfl rfl rfl (by decide +kernel) ⟨Nat.le_of_ble_eq_true rfl, Nat.le_of_ble_eq_true rfl⟩) (rd_preV (q := (RX4, TX4, 29)) hP hK 0 rfl rfl) rfl rfl hl.1 rfl (lv_room (Nat.le_of_ble_eq_true rfl)) dX4_wrong_20 ⟨Nat.zero_le _, Nat.zero_le _⟩) ?_
  refine W.eq (g2 := F0 m 23 ls (.int (b2i (inB (nI j) 8)) :: [.ref (b 19), .int (nI 0), .ref (b 0)])) rfl ?_
  refine lv_if_eq (tgt := 30) hx hb dX4_wrong_23 (by decide) (fun c_2 => absurd (b2i_f c_2) (by rw [inB_nI (by omega) (by omega)]; simp; omega)) (fun c_2 => ?_)
  have c_2 : inB (nI j) 8 = true := b2i_t c_2
  refine lv_iload_n hx hb dX4_wrong_26 rfl (lv_at hl 1 rfl) ?_
  refine lv_goto (tgt := 31) hx hb dX4_wrong_27 (by decide) ?_
  refine ar_zld (D := (dC, dI)) (n := 8) (f := h 19) hx hb hK hP 13 1 rfl rfl (by omega) (by omega) dX4_wrong_31 ?_
  refine lv_if_ne (tgt := 39) hx hb dX4_wrong_32 (by decide) (fun c_3 => ?_) (fun c_3 => absurd c_3 hmk)
  refine lv_iconst (v := nI 0) hx hb dX4_wrong_39 (by decide) ?_
  refine lv_iconst (v := nI 0) hx hb dX4_wrong_40 (by decide) ?_
  refine wr_calli (va_runV (As := [.int (nI 0), .int (nI 0), .int (nI 0)]) (rest := []) ⟨hx, hb, hml, hown, hts⟩ (c_X4_throwing l dC dI cs b g h s.heap.size 0 0 0 hB (by decide) (by decide) (by decide)) (cwV 3 hts gX4_wrong_X4_throwing rfl rfl rfl (by decide +kernel) ⟨Nat.le_of_ble_eq_true rfl, Nat.le_of_ble_eq_true rfl⟩) (wr_preV (q := (RX4, TX4, 29)) hP hK hD 0 rfl rfl) rfl rfl hl.1 rfl (lv_room (Nat.le_of_ble_eq_true rfl)) dX4_wrong_41 ⟨Nat.zero_le _, Nat.zero_le _⟩) hS hD hA rfl (fun H locs hP hD hS => ?_)
  have hP : va_P (dC, dI) vwCl (wM cs b (un g 0 0) h) H := hP
  have hD : va_D A (wM cs b (un g 0 0) h) := hD
  refine W.eq (g2 := F0 m 44 ls (.int (nI 0) :: [])) rfl ?_
  have hB : m_bd (un g 0 0) := by (unfold m_bd un; simp; omega)
  refine lv_if_eq (tgt := 49) hx hb dX4_wrong_44 (by decide) (fun _ => ?_) (fun c => absurd (by decide) c)
  refine lv_iconst (v := nI 0) hx hb dX4_wrong_49 (by decide) ?_
  refine lv_istore_n (lv' := [(2, .int (nI 0)), (0, .ref (b 0)), (1, .int (nI j))]) hx hb dX4_wrong_50 rfl hl (by decide) rfl (fun ls hl => ?_)
  have key : ∀ (k v : Nat) (N : Nat → Nat) (F : Nat → Nat → Int32), v + k = K → m_bd N → N 25 + N 10 = bv + k → F 20 j = nI bv → m_ws k N F → m_wk K (un g 0 0) h = m_wk k N F → ∀ (H : Heap) (locs : List Loc), va_P (dC, dI) vwCl (wM cs b N F) H → va_D A (wM cs b N F) → va_S A s.heap H locs → ∀ ls : Array Slot, lv_has ls 4 [(2, .int (nI v)), (0, .ref (b 0)), (1, .int (nI j))] → W p l e ({ frames := 1, cells := 0, slots := 0, locals := 23 } : Room) s m ([.ref (b 0), .int (nI j)] : List Value).toArray below meth c H locs 0 0 (MQ below (wrQ (dC, dI) vwCl (wM cs b (un (m_dl j 8 0 (un (m_wk K (un g 0 0) h).1 26 ((m_wk K (un g 0 0) h).1 26 + K)) (m_wk K (un g 0 0) h).2).1 23 (((m_dl j 8 0 (un (m_wk K (un g 0 0) h).1 26 ((m_wk K (un g 0 0) h).1 26 + K)) (m_wk K (un g 0 0) h).2).1 23) - 1)) (uf (m_dl j 8 0 (un (m_wk K (un g 0 0) h).1 26 ((m_wk K (un g 0 0) h).1 26 + K)) (m_wk K (un g 0 0) h).2).2 19 (upd ((m_dl j 8 0 (un (m_wk K (un g 0 0) h).1 26 ((m_wk K (un g 0 0) h).1 26 + K)) (m_wk K (un g 0 0) h).2).2 19) j (nI 0)))) (some (.int (nI K))) A) ([.ref (b 0), .int (nI j)] : List Value).toArray s 0 0 A) (F0 m 51 ls []) := by
    intro k
    induction k with
    | zero =>
      intro v N F hv hB hbk hb9 hsf hs H locs hP hD hS ls hl
      obtain ⟨E1, E2, E3, E4, E5, E6, E7, E8, E9, E10, E11, E12, E13, E14, E15, E16⟩ := id hB
      refine lv_aload_n hx hb dX4_wrong_51 rfl (lv_at hl 1 rfl) ?_
      refine va_get (D := (dC, dI)) (ci := 5) (v := .int (nI (N 25))) (C := RX4) (T := TX4) (N := 29) hx hb hts hinX4 hown hK hP 0 rfl rfl 25 (by decide) (hts (.fieldLink RX4 127 "RenameRowsModel" "done" "I") (by decide +kernel)) (fun _ h9 => h9) rfl dX4_wrong_52 ?_
      refine lv_aload_n hx hb dX4_wrong_55 rfl (lv_at hl 1 rfl) ?_
      refine va_get (D := (dC, dI)) (ci := 5) (v := .int (nI (N 10))) (C := RX4) (T := TX4) (N := 29) hx hb hts hinX4 hown hK hP 0 rfl rfl 10 (by decide) (hts (.fieldLink RX4 86 "RenameRowsModel" "rows" "I") (by decide +kernel)) (fun _ h9 => h9) rfl dX4_wrong_56 ?_
      refine lv_iadd hx hb dX4_wrong_59 ?_
      refine tp_eq (nI_add (N 25) (N 10)) ?_
      refine lv_aload_n hx hb dX4_wrong_60 rfl (lv_at hl 1 rfl) ?_
      refine va_get (D := (dC, dI)) (ci := 5) (v := .ref (b 20)) (C := RX4) (T := TX4) (N := 29) hx hb hts hinX4 hown hK hP 0 rfl rfl 20 (by decide) (hts (.fieldLink RX4 50 "RenameRowsModel" "before" "[I") (by decide +kernel)) (fun _ h9 => h9) rfl dX4_wrong_61 ?_
      refine lv_iload_n hx hb dX4_wrong_64 rfl (lv_at hl 2 rfl) ?_
      refine ar_ld (D := (dC, dI)) (n := 8) (f := F 20) hx hb hK hP 14 0 rfl rfl (by omega) (by omega) dX4_wrong_65 ?_
      refine tp_eq hb9 ?_
      refine lv_icmp_le (tgt := 136) hx hb dX4_wrong_66 (by decide) (fun c_5 => ?_) (fun c_5 => absurd (nI_le (by omega) (by omega)) c_5)
      have c_5 : ((N 25) + (N 10)) ≤ bv := (nI_leI (by omega) (by omega)).mp c_5
      have hs8 : m_wk K (un g 0 0) h = (N, F) := hs
      have hvK : v = K := by omega
      have hx26 : N 26 + K < 1000000 := by (rw [hs8] at h3; exact h3)
      refine lv_aload_n hx hb dX4_wrong_136 rfl (lv_at hl 1 rfl) ?_
      refine lv_dup hx hb dX4_wrong_137 rfl ?_
      refine va_get (D := (dC, dI)) (ci := 5) (v := .int (nI (N 26))) (C := RX4) (T := TX4) (N := 29) hx hb hts hinX4 hown hK hP 0 rfl rfl 26 (by decide) (hts (.fieldLink RX4 152 "RenameRowsModel" "back" "I") (by decide +kernel)) (fun _ h9 => h9) rfl dX4_wrong_138 ?_
      refine lv_iload_n hx hb dX4_wrong_141 rfl (lv_at hl 0 rfl) ?_
      refine lv_iadd hx hb dX4_wrong_142 ?_
      refine tp_eq (nI_add (N 26) v) ?_
      refine va_put (D := (dC, dI)) (ci := 5) (v := .int (nI ((N 26) + v))) (ty := .int) (C := RX4) (T := TX4) (N := 29) hx hb hts hinX4 tyX4 tyX4_ok nmX4 hown hK hP hD hS 0 rfl rfl 26 (by decide) (hts (.fieldLink RX4 152 "RenameRowsModel" "back" "I") (by decide +kernel)) (fun _ h9 => h9) rfl (by decide +kernel) rfl rfl (Nat.le_of_ble_eq_true rfl) dX4_wrong_143 (fun H locs hP hD hS => ?_)
      have hP : va_P (dC, dI) vwCl (wM cs b (un N 26 ((N 26) + v)) F) H := hP
      have hD : va_D A (wM cs b (un N 26 ((N 26) + v)) F) := hD
      refine lv_iconst (v := nI 0) hx hb dX4_wrong_146 (by decide) ?_
      refine lv_istore_n (lv' := [(3, .int (nI 0)), (2, .int (nI v)), (0, .ref (b 0)), (1, .int (nI j))]) hx hb dX4_wrong_147 rfl hl (by decide) rfl (fun ls hl => ?_)
      have hB : m_bd (un N 26 ((N 26) + v)) := by (unfold m_bd un; simp; omega)
      have hds : m_ds j 8 0 (un N 26 ((N 26) + v)) F := by (rw [hs8] at hdsf; rw [hvK]; exact hdsf)
      have key2 : ∀ (k t : Nat) (N2 : Nat → Nat) (F2 : Nat → Nat → Int32), t + k = 8 → m_bd N2 → m_ds j k t N2 F2 → m_dl j 8 0 (un N 26 (N 26 + v)) F = m_dl j k t N2 F2 → ∀ (H : Heap) (locs : List Loc), va_P (dC, dI) vwCl (wM cs b N2 F2) H → va_D A (wM cs b N2 F2) → va_S A s.heap H locs → ∀ ls : Array Slot, lv_has ls 4 [(3, .int (nI t)), (2, .int (nI v)), (0, .ref (b 0)), (1, .int (nI j))] → W p l e ({ frames := 1, cells := 0, slots := 0, locals := 23 } : Room) s m ([.ref (b 0), .int (nI j)] : List Value).toArray below meth c H locs 0 0 (MQ below (wrQ (dC, dI) vwCl (wM cs b (un (m_dl j 8 0 (un (m_wk K (un g 0 0) h).1 26 ((m_wk K (un g 0 0) h).1 26 + K)) (m_wk K (un g 0 0) h).2).1 23 (((m_dl j 8 0 (un (m_wk K (un g 0 0) h).1 26 ((m_wk K (un g 0 0) h).1 26 + K)) (m_wk K (un g 0 0) h).2).1 23) - 1)) (uf (m_dl j 8 0 (un (m_wk K (un g 0 0) h).1 26 ((m_wk K (un g 0 0) h).1 26 + K)) (m_wk K (un g 0 0) h).2).2 19 (upd ((m_dl j 8 0 (un (m_wk K (un g 0 0) h).1 26 ((m_wk K (un g 0 0) h).1 26 + K)) (m_wk K (un g 0 0) h).2).2 19) j (nI 0)))) (some (.int (nI K))) A) ([.ref (b 0), .int (nI j)] : List Value).toArray s 0 0 A) (F0 m 148 ls []) := by
        intro k
        induction k with
        | zero =>
          intro t N2 F2 ht hB hd2 hs2 H locs hP hD hS ls hl
          obtain ⟨Q1, Q2, Q3, Q4, Q5, Q6, Q7, Q8, Q9, Q10, Q11, Q12, Q13, Q14, Q15, Q16⟩ := id hB
          refine lv_iload_n hx hb dX4_wrong_148 rfl (lv_at hl 0 rfl) ?_
          refine lv_bipush (v := nI 8) hx hb dX4_wrong_149 (by decide) ?_
          refine lv_icmp_ge (tgt := 194) hx hb dX4_wrong_151 (by decide) (fun c_6 => ?_) (fun c_6 => absurd (nI_le (by omega) (by omega)) c_6)
          have c_6 : 8 ≤ t := (nI_leI (by omega) (by omega)).mp c_6
          have hd5 : 0 < N2 23 := hd2
          refine lv_aload_n hx hb dX4_wrong_194 rfl (lv_at hl 2 rfl) ?_
          refine lv_iload_n hx hb dX4_wrong_195 rfl (lv_at hl 3 rfl) ?_
          refine wr_callv (va_runV (As := [.int (nI j)]) (rest := []) ⟨hx, hb, hml, hown, hts⟩ (c_X4_drop l dC dI cs b N2 F2 H.size j hB (by first | omega | assumption) (by first | omega | assumption)) (cwV 1 hts gX4_wrong_X4_drop rfl rfl rfl (by decide +kernel) ⟨Nat.le_of_ble_eq_true rfl, Nat.le_of_ble_eq_true rfl⟩) (wr_preV (q := (RX4, TX4, 29)) hP hK hD 0 rfl rfl) rfl rfl hl.1 rfl (lv_room (Nat.le_of_ble_eq_true rfl)) dX4_wrong_196 ⟨Nat.zero_le _, Nat.zero_le _⟩) hS hD hA rfl (fun H locs hP hD hS => ?_)
          have hP : va_P (dC, dI) vwCl (wM cs b (un N2 23 ((N2 23) - 1)) (uf F2 19 (upd (F2 19) j (nI 0)))) H := hP
          have hD : va_D A (wM cs b (un N2 23 ((N2 23) - 1)) (uf F2 19 (upd (F2 19) j (nI 0)))) := hD
          refine lv_iload_n hx hb dX4_wrong_199 rfl (lv_at hl 1 rfl) ?_
          have hP : va_P (dC, dI) vwCl (wM cs b (un (m_dl j 8 0 (un (m_wk K (un g 0 0) h).1 26 ((m_wk K (un g 0 0) h).1 26 + K)) (m_wk K (un g 0 0) h).2).1 23 (((m_dl j 8 0 (un (m_wk K (un g 0 0) h).1 26 ((m_wk K (un g 0 0) h).1 26 + K)) (m_wk K (un g 0 0) h).2).1 23) - 1)) (uf (m_dl j 8 0 (un (m_wk K (un g 0 0) h).1 26 ((m_wk K (un g 0 0) h).1 26 + K)) (m_wk K (un g 0 0) h).2).2 19 (upd ((m_dl j 8 0 (un (m_wk K (un g 0 0) h).1 26 ((m_wk K (un g 0 0) h).1 26 + K)) (m_wk K (un g 0 0) h).2).2 19) j (nI 0)))) H := by
            have e9 : (wM cs b (un N2 23 ((N2 23) - 1)) (uf F2 19 (upd (F2 19) j (nI 0)))) = (wM cs b (un (m_dl j 8 0 (un (m_wk K (un g 0 0) h).1 26 ((m_wk K (un g 0 0) h).1 26 + K)) (m_wk K (un g 0 0) h).2).1 23 (((m_dl j 8 0 (un (m_wk K (un g 0 0) h).1 26 ((m_wk K (un g 0 0) h).1 26 + K)) (m_wk K (un g 0 0) h).2).1 23) - 1)) (uf (m_dl j 8 0 (un (m_wk K (un g 0 0) h).1 26 ((m_wk K (un g 0 0) h).1 26 + K)) (m_wk K (un g 0 0) h).2).2 19 (upd ((m_dl j 8 0 (un (m_wk K (un g 0 0) h).1 26 ((m_wk K (un g 0 0) h).1 26 + K)) (m_wk K (un g 0 0) h).2).2 19) j (nI 0)))) := by first | (exact congrArg nI hvK) | (rw [hs8, ← hvK, hs2]; rfl)
            rw [← e9]; exact hP
          refine tp_eq (show _ = nI K by first | (exact congrArg nI hvK) | (rw [hs8, ← hvK, hs2]; rfl)) ?_
          exact wr_iret hx hb hr hlocks hP hS dX4_wrong_200
        | succ k ih2 =>
          intro t N2 F2 ht hB hd2 hs2 H locs hP hD hS ls hl
          obtain ⟨Q1, Q2, Q3, Q4, Q5, Q6, Q7, Q8, Q9, Q10, Q11, Q12, Q13, Q14, Q15, Q16⟩ := id hB
          refine lv_iload_n hx hb dX4_wrong_148 rfl (lv_at hl 0 rfl) ?_
          refine lv_bipush (v := nI 8) hx hb dX4_wrong_149 (by decide) ?_
          refine lv_icmp_ge (tgt := 194) hx hb dX4_wrong_151 (by decide) (fun c_7 => absurd ((nI_leI (by omega) (by omega)).mp c_7) (by omega)) (fun c_7 => ?_)
          have c_7 : ¬ 8 ≤ t := fun q => c_7 ((nI_leI (by omega) (by omega)).mpr q)
          refine lv_aload_n hx hb dX4_wrong_154 rfl (lv_at hl 2 rfl) ?_
          refine va_get (D := (dC, dI)) (ci := 5) (v := .ref (b 19)) (C := RX4) (T := TX4) (N := 29) hx hb hts hinX4 hown hK hP 0 rfl rfl 19 (by decide) (hts (.fieldLink RX4 47 "RenameRowsModel" "marked" "[Z") (by decide +kernel)) (fun _ h9 => h9) rfl dX4_wrong_155 ?_
          refine lv_iload_n hx hb dX4_wrong_158 rfl (lv_at hl 0 rfl) ?_
          refine ar_zld (D := (dC, dI)) (n := 8) (f := F2 19) hx hb hK hP 13 1 rfl rfl (by omega) (by omega) dX4_wrong_159 ?_
          refine lv_if_eq (tgt := 188) hx hb dX4_wrong_160 (by decide) (fun c_8 => ?_) (fun c_8 => ?_)
          · refine lv_iinc (v := nI (t + 1)) (lv' := [(3, .int (nI (t + 1))), (2, .int (nI v)), (0, .ref (b 0)), (1, .int (nI j))]) hx hb dX4_wrong_188 hl (k := 0) rfl (nI_succ t).symm (by decide) rfl (fun ls hl => ?_)
            refine lv_goto (tgt := 148) hx hb dX4_wrong_191 (by decide) ?_
            exact ih2 (t + 1) N2 F2 (by omega) hB (by rw [m_ds, if_neg] at hd2; exact hd2; simp [m_dc, c_8]) (by rw [hs2, m_dl, if_neg]; simp [m_dc, c_8]) H locs hP hD hS ls (lv_sub hl [0, 1, 2, 3] rfl)
          · refine lv_iload_n hx hb dX4_wrong_163 rfl (lv_at hl 0 rfl) ?_
            refine lv_iload_n hx hb dX4_wrong_164 rfl (lv_at hl 3 rfl) ?_
            refine lv_icmp_eq (tgt := 188) hx hb dX4_wrong_165 (by decide) (fun c_9 => ?_) (fun c_9 => ?_)
            · have c_9 : t = j := (nI_eq (by omega) (by omega)).mp c_9
              refine lv_iinc (v := nI (t + 1)) (lv' := [(3, .int (nI (t + 1))), (2, .int (nI v)), (0, .ref (b 0)), (1, .int (nI j))]) hx hb dX4_wrong_188 hl (k := 0) rfl (nI_succ t).symm (by decide) rfl (fun ls hl => ?_)
              refine lv_goto (tgt := 148) hx hb dX4_wrong_191 (by decide) ?_
              exact ih2 (t + 1) N2 F2 (by omega) hB (by rw [m_ds, if_neg] at hd2; exact hd2; simp [m_dc, c_8, c_9]) (by rw [hs2, m_dl, if_neg]; simp [m_dc, c_8, c_9]) H locs hP hD hS ls (lv_sub hl [0, 1, 2, 3] rfl)
            · have c_9 : ¬ t = j := fun q => c_9 ((nI_eq (by omega) (by omega)).mpr q)
              refine lv_aload_n hx hb dX4_wrong_168 rfl (lv_at hl 2 rfl) ?_
              refine va_get (D := (dC, dI)) (ci := 5) (v := .ref (b 21)) (C := RX4) (T := TX4) (N := 29) hx hb hts hinX4 hown hK hP 0 rfl rfl 21 (by decide) (hts (.fieldLink RX4 53 "RenameRowsModel" "age" "[I") (by decide +kernel)) (fun _ h9 => h9) rfl dX4_wrong_169 ?_
              refine lv_iload_n hx hb dX4_wrong_172 rfl (lv_at hl 0 rfl) ?_
              refine ar_ld (D := (dC, dI)) (n := 8) (f := F2 21) hx hb hK hP 15 0 rfl rfl (by omega) (by omega) dX4_wrong_173 ?_
              refine lv_aload_n hx hb dX4_wrong_174 rfl (lv_at hl 2 rfl) ?_
              refine va_get (D := (dC, dI)) (ci := 5) (v := .ref (b 21)) (C := RX4) (T := TX4) (N := 29) hx hb hts hinX4 hown hK hP 0 rfl rfl 21 (by decide) (hts (.fieldLink RX4 53 "RenameRowsModel" "age" "[I") (by decide +kernel)) (fun _ h9 => h9) rfl dX4_wrong_175 ?_
              refine lv_iload_n hx hb dX4_wrong_178 rfl (lv_at hl 3 rfl) ?_
              refine ar_ld (D := (dC, dI)) (n := 8) (f := F2 21) hx hb hK hP 15 0 rfl rfl (by omega) (by omega) dX4_wrong_179 ?_
              refine lv_icmp_le (tgt := 188) hx hb dX4_wrong_180 (by decide) (fun c_10 => ?_) (fun c_10 => ?_)
              · refine lv_iinc (v := nI (t + 1)) (lv' := [(3, .int (nI (t + 1))), (2, .int (nI v)), (0, .ref (b 0)), (1, .int (nI j))]) hx hb dX4_wrong_188 hl (k := 0) rfl (nI_succ t).symm (by decide) rfl (fun ls hl => ?_)
                refine lv_goto (tgt := 148) hx hb dX4_wrong_191 (by decide) ?_
                exact ih2 (t + 1) N2 F2 (by omega) hB (by rw [m_ds, if_neg] at hd2; exact hd2; simp [m_dc, c_8, c_9, c_10]) (by rw [hs2, m_dl, if_neg]; simp [m_dc, c_8, c_9, c_10]) H locs hP hD hS ls (lv_sub hl [0, 1, 2, 3] rfl)
              · have hdc : m_dc j t F2 = true := by simp [m_dc, c_8, c_9, c_10]
                rw [m_ds, if_pos hdc] at hd2
                obtain ⟨hd4, hd3⟩ := hd2
                refine lv_aload_n hx hb dX4_wrong_183 rfl (lv_at hl 2 rfl) ?_
                refine lv_iload_n hx hb dX4_wrong_184 rfl (lv_at hl 0 rfl) ?_
                refine wr_callv (va_runV (As := [.int (nI t)]) (rest := []) ⟨hx, hb, hml, hown, hts⟩ (c_X4_drop l dC dI cs b N2 F2 H.size t hB (by first | omega | assumption) (by first | omega | assumption)) (cwV 1 hts gX4_wrong_X4_drop rfl rfl rfl (by decide +kernel) ⟨Nat.le_of_ble_eq_true rfl, Nat.le_of_ble_eq_true rfl⟩) (wr_preV (q := (RX4, TX4, 29)) hP hK hD 0 rfl rfl) rfl rfl hl.1 rfl (lv_room (Nat.le_of_ble_eq_true rfl)) dX4_wrong_185 ⟨Nat.zero_le _, Nat.zero_le _⟩) hS hD hA rfl (fun H locs hP hD hS => ?_)
                have hP : va_P (dC, dI) vwCl (wM cs b (un N2 23 ((N2 23) - 1)) (uf F2 19 (upd (F2 19) t (nI 0)))) H := hP
                have hD : va_D A (wM cs b (un N2 23 ((N2 23) - 1)) (uf F2 19 (upd (F2 19) t (nI 0)))) := hD
                refine lv_iinc (v := nI (t + 1)) (lv' := [(3, .int (nI (t + 1))), (2, .int (nI v)), (0, .ref (b 0)), (1, .int (nI j))]) hx hb dX4_wrong_188 hl (k := 0) rfl (nI_succ t).symm (by decide) rfl (fun ls hl => ?_)
                refine lv_goto (tgt := 148) hx hb dX4_wrong_191 (by decide) ?_
                have hB : m_bd (un N2 23 ((N2 23) - 1)) := by (unfold m_bd un; simp; omega)
                exact ih2 (t + 1) (un N2 23 ((N2 23) - 1)) (uf F2 19 (upd (F2 19) t (nI 0))) (by omega) hB hd3 (by rw [hs2, m_dl, if_pos hdc]) H locs hP hD hS ls (lv_sub hl [0, 1, 2, 3] rfl)
      exact key2 8 0 (un N 26 (N 26 + v)) F (by omega) hB hds rfl _ _ hP hD hS ls (lv_sub hl [0, 1, 2, 3] rfl)
    | succ k ih =>
      intro v N F hv hB hbk hb9 hsf hs H locs hP hD hS ls hl
      obtain ⟨E1, E2, E3, E4, E5, E6, E7, E8, E9, E10, E11, E12, E13, E14, E15, E16⟩ := id hB
      refine lv_aload_n hx hb dX4_wrong_51 rfl (lv_at hl 1 rfl) ?_
      refine va_get (D := (dC, dI)) (ci := 5) (v := .int (nI (N 25))) (C := RX4) (T := TX4) (N := 29) hx hb hts hinX4 hown hK hP 0 rfl rfl 25 (by decide) (hts (.fieldLink RX4 127 "RenameRowsModel" "done" "I") (by decide +kernel)) (fun _ h9 => h9) rfl dX4_wrong_52 ?_
      refine lv_aload_n hx hb dX4_wrong_55 rfl (lv_at hl 1 rfl) ?_
      refine va_get (D := (dC, dI)) (ci := 5) (v := .int (nI (N 10))) (C := RX4) (T := TX4) (N := 29) hx hb hts hinX4 hown hK hP 0 rfl rfl 10 (by decide) (hts (.fieldLink RX4 86 "RenameRowsModel" "rows" "I") (by decide +kernel)) (fun _ h9 => h9) rfl dX4_wrong_56 ?_
      refine lv_iadd hx hb dX4_wrong_59 ?_
      refine tp_eq (nI_add (N 25) (N 10)) ?_
      refine lv_aload_n hx hb dX4_wrong_60 rfl (lv_at hl 1 rfl) ?_
      refine va_get (D := (dC, dI)) (ci := 5) (v := .ref (b 20)) (C := RX4) (T := TX4) (N := 29) hx hb hts hinX4 hown hK hP 0 rfl rfl 20 (by decide) (hts (.fieldLink RX4 50 "RenameRowsModel" "before" "[I") (by decide +kernel)) (fun _ h9 => h9) rfl dX4_wrong_61 ?_
      refine lv_iload_n hx hb dX4_wrong_64 rfl (lv_at hl 2 rfl) ?_
      refine ar_ld (D := (dC, dI)) (n := 8) (f := F 20) hx hb hK hP 14 0 rfl rfl (by omega) (by omega) dX4_wrong_65 ?_
      refine tp_eq hb9 ?_
      refine lv_icmp_le (tgt := 136) hx hb dX4_wrong_66 (by decide) (fun c_11 => absurd ((nI_leI (by omega) (by omega)).mp c_11) (by omega)) (fun c_11 => ?_)
      have c_11 : ¬ ((N 25) + (N 10)) ≤ bv := fun q => c_11 ((nI_leI (by omega) (by omega)).mpr q)
      obtain ⟨hpos, hts9, hB9, hS9⟩ := hsf
      refine lv_aload_n hx hb dX4_wrong_69 rfl (lv_at hl 1 rfl) ?_
      refine lv_dup hx hb dX4_wrong_70 rfl ?_
      refine va_get (D := (dC, dI)) (ci := 5) (v := .int (nI (N 10))) (C := RX4) (T := TX4) (N := 29) hx hb hts hinX4 hown hK hP 0 rfl rfl 10 (by decide) (hts (.fieldLink RX4 86 "RenameRowsModel" "rows" "I") (by decide +kernel)) (fun _ h9 => h9) rfl dX4_wrong_71 ?_
      refine lv_iconst (v := nI 1) hx hb dX4_wrong_74 (by decide) ?_
      refine lv_isub hx hb dX4_wrong_75 ?_
      refine tp_eq (pk_sub (by omega)) ?_
      refine va_put (D := (dC, dI)) (ci := 5) (v := .int (nI ((N 10) - 1))) (ty := .int) (C := RX4) (T := TX4) (N := 29) hx hb hts hinX4 tyX4 tyX4_ok nmX4 hown hK hP hD hS 0 rfl rfl 10 (by decide) (hts (.fieldLink RX4 86 "RenameRowsModel" "rows" "I") (by decide +kernel)) (fun _ h9 => h9) rfl (by decide +kernel) rfl rfl (Nat.le_of_ble_eq_true rfl) dX4_wrong_76 (fun H locs hP hD hS => ?_)
      have hP : va_P (dC, dI) vwCl (wM cs b (un N 10 ((N 10) - 1)) F) H := hP
      have hD : va_D A (wM cs b (un N 10 ((N 10) - 1)) F) := hD
      refine lv_iinc (v := nI (v + 1)) (lv' := [(2, .int (nI (v + 1))), (0, .ref (b 0)), (1, .int (nI j))]) hx hb dX4_wrong_79 hl (k := 0) rfl (nI_succ v).symm (by decide) rfl (fun ls hl => ?_)
      rcases hts9 with h0 | ⟨r, q, e1, e2, e3, e4, e5⟩
      · refine lv_aload_n hx hb dX4_wrong_82 rfl (lv_at hl 1 rfl) ?_
        refine va_get (D := (dC, dI)) (ci := 5) (v := .ref (b 16)) (C := RX4) (T := TX4) (N := 29) hx hb hts hinX4 hown hK hP 0 rfl rfl 16 (by decide) (hts (.fieldLink RX4 38 "RenameRowsModel" "register" "[I") (by decide +kernel)) (fun _ h9 => h9) rfl dX4_wrong_83 ?_
        refine lv_aload_n hx hb dX4_wrong_86 rfl (lv_at hl 1 rfl) ?_
        refine va_get (D := (dC, dI)) (ci := 5) (v := .int (nI ((N 10) - 1))) (C := RX4) (T := TX4) (N := 29) hx hb hts hinX4 hown hK hP 0 rfl rfl 10 (by decide) (hts (.fieldLink RX4 86 "RenameRowsModel" "rows" "I") (by decide +kernel)) (fun _ h9 => h9) rfl dX4_wrong_87 ?_
        refine ar_ld (D := (dC, dI)) (n := 64) (f := F 16) hx hb hK hP 10 0 rfl rfl (by omega) (by omega) dX4_wrong_90 ?_
        refine tp_eq h0 ?_
        refine lv_if_ge (tgt := 97) hx hb dX4_wrong_91 (by decide) (fun c => absurd c (by decide)) (fun _ => ?_)
        refine lv_goto (tgt := 51) hx hb dX4_wrong_94 (by decide) ?_
        have e8 : m_wN N F = (un N 10 ((N 10) - 1)) := by simp [m_wN, m_w4, h0]
        have e9 : m_wF N F = F := by simp [m_wF, m_w4, h0]
        have hP : va_P (dC, dI) vwCl (wM cs b (m_wN N F) (m_wF N F)) H := by
          rw [e8, e9]; exact hP
        have hD : va_D A (wM cs b (m_wN N F) (m_wF N F)) := hD.same rfl
        exact ih (v + 1) (m_wN N F) (m_wF N F) (by omega) hB9 (by rw [m_wN_10, m_wN_o (by decide) (by decide)]; omega) (by rw [m_wF_o (by decide) (by decide) (by decide)]; exact hb9) hS9 (by rw [hs, m_wk]) H locs hP hD hS ls (lv_sub hl [0, 1, 2] rfl)
      · refine lv_aload_n hx hb dX4_wrong_82 rfl (lv_at hl 1 rfl) ?_
        refine va_get (D := (dC, dI)) (ci := 5) (v := .ref (b 16)) (C := RX4) (T := TX4) (N := 29) hx hb hts hinX4 hown hK hP 0 rfl rfl 16 (by decide) (hts (.fieldLink RX4 38 "RenameRowsModel" "register" "[I") (by decide +kernel)) (fun _ h9 => h9) rfl dX4_wrong_83 ?_
        refine lv_aload_n hx hb dX4_wrong_86 rfl (lv_at hl 1 rfl) ?_
        refine va_get (D := (dC, dI)) (ci := 5) (v := .int (nI ((N 10) - 1))) (C := RX4) (T := TX4) (N := 29) hx hb hts hinX4 hown hK hP 0 rfl rfl 10 (by decide) (hts (.fieldLink RX4 86 "RenameRowsModel" "rows" "I") (by decide +kernel)) (fun _ h9 => h9) rfl dX4_wrong_87 ?_
        refine ar_ld (D := (dC, dI)) (n := 64) (f := F 16) hx hb hK hP 10 0 rfl rfl (by omega) (by omega) dX4_wrong_90 ?_
        refine tp_eq e1 ?_
        refine lv_if_ge (tgt := 97) hx hb dX4_wrong_91 (by decide) (fun _ => ?_) (fun c => absurd (nI_pos' (by omega)) c)
        refine lv_aload_n hx hb dX4_wrong_97 rfl (lv_at hl 1 rfl) ?_
        refine va_get (D := (dC, dI)) (ci := 5) (v := .ref (b 4)) (C := RX4) (T := TX4) (N := 29) hx hb hts hinX4 hown hK hP 0 rfl rfl 4 (by decide) (hts (.fieldLink RX4 7 "RenameRowsModel" "name" "[I") (by decide +kernel)) (fun _ h9 => h9) rfl dX4_wrong_98 ?_
        refine lv_aload_n hx hb dX4_wrong_101 rfl (lv_at hl 1 rfl) ?_
        refine va_get (D := (dC, dI)) (ci := 5) (v := .ref (b 16)) (C := RX4) (T := TX4) (N := 29) hx hb hts hinX4 hown hK hP 0 rfl rfl 16 (by decide) (hts (.fieldLink RX4 38 "RenameRowsModel" "register" "[I") (by decide +kernel)) (fun _ h9 => h9) rfl dX4_wrong_102 ?_
        refine lv_aload_n hx hb dX4_wrong_105 rfl (lv_at hl 1 rfl) ?_
        refine va_get (D := (dC, dI)) (ci := 5) (v := .int (nI ((N 10) - 1))) (C := RX4) (T := TX4) (N := 29) hx hb hts hinX4 hown hK hP 0 rfl rfl 10 (by decide) (hts (.fieldLink RX4 86 "RenameRowsModel" "rows" "I") (by decide +kernel)) (fun _ h9 => h9) rfl dX4_wrong_106 ?_
        refine ar_ld (D := (dC, dI)) (n := 64) (f := F 16) hx hb hK hP 10 0 rfl rfl (by omega) (by omega) dX4_wrong_109 ?_
        refine tp_eq e1 ?_
        refine lv_aload_n hx hb dX4_wrong_110 rfl (lv_at hl 1 rfl) ?_
        refine va_get (D := (dC, dI)) (ci := 5) (v := .ref (b 15)) (C := RX4) (T := TX4) (N := 29) hx hb hts hinX4 hown hK hP 0 rfl rfl 15 (by decide) (hts (.fieldLink RX4 35 "RenameRowsModel" "knew" "[I") (by decide +kernel)) (fun _ h9 => h9) rfl dX4_wrong_111 ?_
        refine lv_aload_n hx hb dX4_wrong_114 rfl (lv_at hl 1 rfl) ?_
        refine va_get (D := (dC, dI)) (ci := 5) (v := .int (nI ((N 10) - 1))) (C := RX4) (T := TX4) (N := 29) hx hb hts hinX4 hown hK hP 0 rfl rfl 10 (by decide) (hts (.fieldLink RX4 86 "RenameRowsModel" "rows" "I") (by decide +kernel)) (fun _ h9 => h9) rfl dX4_wrong_115 ?_
        refine ar_ld (D := (dC, dI)) (n := 64) (f := F 15) hx hb hK hP 9 0 rfl rfl (by omega) (by omega) dX4_wrong_118 ?_
        refine ar_st (D := (dC, dI)) (n := 32) (f := F 4) hx hb hK hP hD hS 1 0 rfl rfl (by omega) (by omega) dX4_wrong_119 (fun H locs hP hD hS => ?_)
        have hP : va_P (dC, dI) vwCl (wM cs b (un N 10 ((N 10) - 1)) (uf F 4 (upd (F 4) r (F 15 ((N 10) - 1))))) H := hP
        have hD : va_D A (wM cs b (un N 10 ((N 10) - 1)) (uf F 4 (upd (F 4) r (F 15 ((N 10) - 1))))) := hD
        have hB : m_bd (un N 10 ((N 10) - 1)) := by (unfold m_bd un; simp; omega)
        refine lv_aload_n hx hb dX4_wrong_120 rfl (lv_at hl 1 rfl) ?_
        refine lv_aload_n hx hb dX4_wrong_121 rfl (lv_at hl 1 rfl) ?_
        refine va_get (D := (dC, dI)) (ci := 5) (v := .ref (b 14)) (C := RX4) (T := TX4) (N := 29) hx hb hts hinX4 hown hK hP 0 rfl rfl 14 (by decide) (hts (.fieldLink RX4 32 "RenameRowsModel" "gave" "[I") (by decide +kernel)) (fun _ h9 => h9) rfl dX4_wrong_122 ?_
        refine lv_aload_n hx hb dX4_wrong_125 rfl (lv_at hl 1 rfl) ?_
        refine va_get (D := (dC, dI)) (ci := 5) (v := .int (nI ((N 10) - 1))) (C := RX4) (T := TX4) (N := 29) hx hb hts hinX4 hown hK hP 0 rfl rfl 10 (by decide) (hts (.fieldLink RX4 86 "RenameRowsModel" "rows" "I") (by decide +kernel)) (fun _ h9 => h9) rfl dX4_wrong_126 ?_
        refine ar_ld (D := (dC, dI)) (n := 64) (f := F 14) hx hb hK hP 8 0 rfl rfl (by omega) (by omega) dX4_wrong_129 ?_
        refine tp_eq e3 ?_
        refine wr_callv (va_runV (As := [.int (nI q)]) (rest := []) ⟨hx, hb, hml, hown, hts⟩ (c_X4_giveBack l dC dI cs b (un N 10 ((N 10) - 1)) (uf F 4 (upd (F 4) r (F 15 ((N 10) - 1)))) H.size q hB (by first | omega | assumption) (by first | omega | assumption)) (cwV 1 hts gX4_wrong_X4_giveBack rfl rfl rfl (by decide +kernel) ⟨Nat.le_of_ble_eq_true rfl, Nat.le_of_ble_eq_true rfl⟩) (wr_preV (q := (RX4, TX4, 29)) hP hK hD 0 rfl rfl) rfl rfl hl.1 rfl (lv_room (Nat.le_of_ble_eq_true rfl)) dX4_wrong_130 ⟨Nat.zero_le _, Nat.zero_le _⟩) hS hD hA rfl (fun H locs hP hD hS => ?_)
        have hP : va_P (dC, dI) vwCl (wM cs b (m_gN (un N 10 ((N 10) - 1)) (uf F 4 (upd (F 4) r (F 15 ((N 10) - 1)))) q) (m_gF (un N 10 ((N 10) - 1)) (uf F 4 (upd (F 4) r (F 15 ((N 10) - 1)))) q)) H := hP
        have hD : va_D A (wM cs b (m_gN (un N 10 ((N 10) - 1)) (uf F 4 (upd (F 4) r (F 15 ((N 10) - 1)))) q) (m_gF (un N 10 ((N 10) - 1)) (uf F 4 (upd (F 4) r (F 15 ((N 10) - 1)))) q)) := hD
        have hB : m_bd (m_gN (un N 10 ((N 10) - 1)) (uf F 4 (upd (F 4) r (F 15 ((N 10) - 1)))) q) := by exact m_gN_bd hB (by first | omega | assumption | exact e5)
        refine lv_goto (tgt := 51) hx hb dX4_wrong_133 (by decide) ?_
        have e8 : m_wN N F = (m_gN (un N 10 ((N 10) - 1)) (uf F 4 (upd (F 4) r (F 15 ((N 10) - 1)))) q) := by simp [m_wN, m_w4, e1, e3, nI_m1 (show r < 2 ^ 31 by omega), cl32_nI (show r < 2 ^ 31 by omega), cl32_nI (show q < 2 ^ 31 by omega)]
        have e9 : m_wF N F = (m_gF (un N 10 ((N 10) - 1)) (uf F 4 (upd (F 4) r (F 15 ((N 10) - 1)))) q) := by simp [m_wF, m_w4, e1, e3, nI_m1 (show r < 2 ^ 31 by omega), cl32_nI (show r < 2 ^ 31 by omega), cl32_nI (show q < 2 ^ 31 by omega)]
        have hP : va_P (dC, dI) vwCl (wM cs b (m_wN N F) (m_wF N F)) H := by
          rw [e8, e9]; exact hP
        have hD : va_D A (wM cs b (m_wN N F) (m_wF N F)) := hD.same rfl
        exact ih (v + 1) (m_wN N F) (m_wF N F) (by omega) hB9 (by rw [m_wN_10, m_wN_o (by decide) (by decide)]; omega) (by rw [m_wF_o (by decide) (by decide) (by decide)]; exact hb9) hS9 (by rw [hs, m_wk]) H locs hP hD hS ls (lv_sub hl [0, 1, 2] rfl)
  exact key K 0 (un g 0 0) h (by omega) hB (by simp [un]; omega) hbv hsafe rfl _ _ hP hD hS ls (lv_sub hl [0, 1, 2] rfl)
