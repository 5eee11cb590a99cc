/-! the reference's loops that write -/
def m_in (g : Nat → Nat) (ka pn : Nat) : Nat → Nat → (Nat → Nat → Int32) → Nat → Nat × (Nat → Nat → Int32)
  | 0, _, h, v => (v, h)
  | k + 1, i, h, v => if pn < ka ∧ ¬ 0 ≤ h 24 pn then (if (decide (h 17 i = nI pn) && m_may h i) = true then m_in g ka pn k (i + 1) (uf (uf h 18 (upd (h 18) i (nI 1))) 24 (upd (h 24) pn (nI (m_pos g i)))) (v + 1) else m_in g ka pn k (i + 1) h v) else (v, h)
def m_se (g : Nat → Nat) (ka : Nat) : Nat → Nat → (Nat → Nat → Int32) → Nat → Nat × (Nat → Nat → Int32)
  | 0, _, h, v => (v, h)
  | k + 1, pn, h, v => m_se g ka k (pn + 1) (m_in g ka pn (g 10) 0 (uf h 24 (upd (h 24) pn (-1))) v).2 (m_in g ka pn (g 10) 0 (uf h 24 (upd (h 24) pn (-1))) v).1
def m_s5 (h : Nat → Nat → Int32) : Nat → Nat → Int32 := uf h 5 (upd (h 5) (cl32 (h 16 0)) (h 14 0))
def m_cgN (g : Nat → Nat) (h : Nat → Nat → Int32) : Nat → Nat := if h 16 0 = -1 then g else m_gN g (m_s5 h) (cl32 (h 15 0))
def m_cgF (g : Nat → Nat) (h : Nat → Nat → Int32) : Nat → Nat → Int32 := if h 16 0 = -1 then h else m_gF g (m_s5 h) (cl32 (h 15 0))
def m_shN (g : Nat → Nat) : Nat → Nat := un (un g 10 (g 10 - 1)) 11 ((g 11 + 1) % g 3)
def m_stN (g : Nat → Nat) (h : Nat → Nat → Int32) : Nat → Nat := un (m_shN (m_cgN g h)) 25 (m_cgN g h 25 + 1)
def m_stF (g : Nat → Nat) (h : Nat → Nat → Int32) : Nat → Nat → Int32 := m_sh (m_cgF g h) (m_cgN g h 10 - 1)
def m_cc (ka v : Nat) (g : Nat → Nat) (h : Nat → Nat → Int32) : Bool := decide (v < ka) && (decide (h 18 0 = nI 2) && decide (nI (g 25) < m_bnd h))
def m_cm (ka : Nat) : Nat → Nat → (Nat → Nat) → (Nat → Nat → Int32) → Nat × ((Nat → Nat) × (Nat → Nat → Int32))
  | 0, v, g, h => (v, g, h)
  | k + 1, v, g, h => if m_cc ka v g h = true then m_cm ka k (v + 1) (m_stN g h) (m_stF g h) else (v, g, h)
def m_fs (g : Nat → Nat) (h : Nat → Nat → Int32) : Prop := h 16 0 = -1 ∨ ∃ r q : Nat, h 16 0 = nI r ∧ r < 32 ∧ h 15 0 = nI q ∧ q < 96 ∧ g 9 < 96
def m_cs (ka : Nat) : Nat → Nat → (Nat → Nat) → (Nat → Nat → Int32) → Prop
  | 0, _, _, _ => True
  | k + 1, v, g, h => m_cc ka v g h = true → m_fs g h ∧ m_bd (m_stN g h) ∧ m_cs ka k (v + 1) (m_stN g h) (m_stF g h)
theorem m_stN_10 {g : Nat → Nat} {h : Nat → Nat → Int32} : m_stN g h 10 = g 10 - 1 := by
  have e : m_cgN g h 10 = g 10 := by
    unfold m_cgN
    split
    · rfl
    · exact m_gN_o (by decide)
  show m_cgN g h 10 - 1 = g 10 - 1
  rw [e]
def m_w4 (g : Nat → Nat) (h : Nat → Nat → Int32) : Nat → Nat → Int32 := uf h 4 (upd (h 4) (cl32 (h 16 (g 10 - 1))) (h 15 (g 10 - 1)))
def m_wN (g : Nat → Nat) (h : Nat → Nat → Int32) : Nat → Nat := if h 16 (g 10 - 1) = -1 then un g 10 (g 10 - 1) else m_gN (un g 10 (g 10 - 1)) (m_w4 g h) (cl32 (h 14 (g 10 - 1)))
def m_wF (g : Nat → Nat) (h : Nat → Nat → Int32) : Nat → Nat → Int32 := if h 16 (g 10 - 1) = -1 then h else m_gF (un g 10 (g 10 - 1)) (m_w4 g h) (cl32 (h 14 (g 10 - 1)))
theorem m_wN_o {g : Nat → Nat} {h : Nat → Nat → Int32} {k : Nat} (hk : k ≠ 9) (h2 : k ≠ 10) : m_wN g h k = g k := by
  unfold m_wN
  split
  · exact un_n h2
  · rw [m_gN_o hk, un_n h2]
theorem m_wN_10 {g : Nat → Nat} {h : Nat → Nat → Int32} : m_wN g h 10 = g 10 - 1 := by
  unfold m_wN
  split
  · exact un_s
  · rw [m_gN_o (by decide), un_s]
theorem m_wF_o {g : Nat → Nat} {h : Nat → Nat → Int32} {k : Nat} (hk : k ≠ 6) (h2 : k ≠ 8) (h3 : k ≠ 4) : m_wF g h k = h k := by
  unfold m_wF
  split
  · rfl
  · rw [m_gF_o hk h2, m_w4, uf_n h3]
def m_ts (g : Nat → Nat) (h : Nat → Nat → Int32) : Prop := h 16 (g 10 - 1) = -1 ∨ ∃ r q : Nat, h 16 (g 10 - 1) = nI r ∧ r < 32 ∧ h 14 (g 10 - 1) = nI q ∧ q < 96 ∧ g 9 < 96
def m_wk : Nat → (Nat → Nat) → (Nat → Nat → Int32) → (Nat → Nat) × (Nat → Nat → Int32)
  | 0, g, h => (g, h)
  | k + 1, g, h => m_wk k (m_wN g h) (m_wF g h)
def m_ws : Nat → (Nat → Nat) → (Nat → Nat → Int32) → Prop
  | 0, _, _ => True
  | k + 1, g, h => 0 < g 10 ∧ m_ts g h ∧ m_bd (m_wN g h) ∧ m_ws k (m_wN g h) (m_wF g h)
def m_dc (j t : Nat) (h : Nat → Nat → Int32) : Bool := !decide (h 19 t = 0) && (!decide (t = j) && !decide (h 21 t ≤ h 21 j))
def m_dl (j : Nat) : Nat → Nat → (Nat → Nat) → (Nat → Nat → Int32) → (Nat → Nat) × (Nat → Nat → Int32)
  | 0, _, g, h => (g, h)
  | k + 1, t, g, h => if m_dc j t h = true then m_dl j k (t + 1) (un g 23 (g 23 - 1)) (uf h 19 (upd (h 19) t (nI 0))) else m_dl j k (t + 1) g h
def m_ds (j : Nat) : Nat → Nat → (Nat → Nat) → (Nat → Nat → Int32) → Prop
  | 0, _, g, _ => 0 < g 23
  | k + 1, t, g, h => if m_dc j t h = true then 0 < g 23 ∧ m_ds j k (t + 1) (un g 23 (g 23 - 1)) (uf h 19 (upd (h 19) t (nI 0))) else m_ds j k (t + 1) g h

set_option maxHeartbeats 4000000 in
set_option maxRecDepth 100000 in
theorem c_X4_select_x (l : Launch) (dC : Nat → ClassId) (dI : Nat → Nat → Nat) (cs : ClassId × ClassId) (b g : Nat → Nat) (h : Nat → Nat → Int32) (sz : Nat) (y : Int32) (hbad : y < nI 1 ∨ nI 8 < y) (hB : m_bd g)  : Met l yX4_select wsX4_select ({ frames := 1, cells := 0, slots := 0, locals := 23 }) (wrPc (dC, dI) vwCl (wM cs b g h) (tyl cs) sz [.ref (b 0), .int y]) (wrQ (dC, dI) vwCl (wM cs b (un g 0 1) h) (some (.int (nI 0))) (va_A (wM cs b g h) sz)) 0 0 (va_A (wM cs b g h) sz) := by
  refine wr_of (cc := cX4_select) (maxL := 5) (ret := (some .int)) (own := RX4) (by decide) rfl rfl (Nat.le_of_ble_eq_true rfl) ?_
  intro p e s m below meth c A hsz hAe hx hb hr hml hts hown hlocks hP hK hD hA hS ls hl
  have hl : lv_has ls 5 [(0, .ref (b 0)), (1, .int y)] := hl
  obtain ⟨M1, M2, M3, M4, M5, M6, M7, M8, M9, M10, M11, M12, M13, M14, M15, M16⟩ := id hB
  refine lv_aload_n hx hb dX4_select_0 rfl (lv_at hl 0 rfl) ?_
  refine lv_iload_n hx hb dX4_select_1 rfl (lv_at hl 1 rfl) ?_
  refine lv_iconst (v := nI 1) hx hb dX4_select_2 (by decide) ?_
  refine lv_icmp_lt (tgt := 12) hx hb dX4_select_3 (by decide) (fun c_1 => ?_) (fun c_1 => ?_)
  · refine lv_iconst (v := nI 1) hx hb dX4_select_12 (by decide) ?_
    refine lv_goto (tgt := 17) hx hb dX4_select_13 (by decide) ?_
    refine lv_iconst (v := nI 0) hx hb dX4_select_17 (by decide) ?_
    refine lv_iconst (v := nI 0) hx hb dX4_select_18 (by decide) ?_
    refine wr_calli (va_runV (As := [.int (nI 1), .int (nI 0), .int (nI 0)]) (rest := []) ⟨hx, hb, hml, hown, hts⟩ (c_X4_throwing l dC dI cs b g h s.heap.size 1 0 0 hB (by decide) (by decide) (by decide)) (cwV 3 hts gX4_select_X4_throwing rfl rfl rfl (by decide +kernel) ⟨Nat.le_of_ble_eq_true rfl, Nat.le_of_ble_eq_true rfl⟩) (wr_preV (q := (RX4, TX4, 29)) hP hK hD 0 rfl rfl) rfl rfl hl.1 rfl (lv_room (Nat.le_of_ble_eq_true rfl)) dX4_select_19 ⟨Nat.zero_le _, Nat.zero_le _⟩) hS hD hA rfl (fun H locs hP hD hS => ?_)
    have hP : va_P (dC, dI) vwCl (wM cs b (un g 0 1) h) H := hP
    have hD : va_D A (wM cs b (un g 0 1) h) := hD
    refine W.eq (g2 := F0 m 22 ls (.int (nI 1) :: [])) rfl ?_
    have hB : m_bd (un g 0 1) := by (unfold m_bd un; simp; omega)
    refine lv_if_eq (tgt := 27) hx hb dX4_select_22 (by decide) (fun c => absurd c (by decide)) (fun _ => ?_)
    refine lv_iconst (v := nI 0) hx hb dX4_select_25 (by decide) ?_
    exact wr_iret hx hb hr hlocks hP hS dX4_select_26
  · refine lv_iload_n hx hb dX4_select_6 rfl (lv_at hl 1 rfl) ?_
    refine lv_bipush (v := nI 8) hx hb dX4_select_7 (by decide) ?_
    refine lv_icmp_le (tgt := 16) hx hb dX4_select_9 (by decide) (fun c_3 => ?_) (fun c_3 => ?_)
    · rcases hbad with q | q
      · exact absurd q c_1
      · exact absurd q (nl32 c_3)
    · refine lv_iconst (v := nI 1) hx hb dX4_select_12 (by decide) ?_
      refine lv_goto (tgt := 17) hx hb dX4_select_13 (by decide) ?_
      refine lv_iconst (v := nI 0) hx hb dX4_select_17 (by decide) ?_
      refine lv_iconst (v := nI 0) hx hb dX4_select_18 (by decide) ?_
      refine wr_calli (va_runV (As := [.int (nI 1), .int (nI 0), .int (nI 0)]) (rest := []) ⟨hx, hb, hml, hown, hts⟩ (c_X4_throwing l dC dI cs b g h s.heap.size 1 0 0 hB (by decide) (by decide) (by decide)) (cwV 3 hts gX4_select_X4_throwing rfl rfl rfl (by decide +kernel) ⟨Nat.le_of_ble_eq_true rfl, Nat.le_of_ble_eq_true rfl⟩) (wr_preV (q := (RX4, TX4, 29)) hP hK hD 0 rfl rfl) rfl rfl hl.1 rfl (lv_room (Nat.le_of_ble_eq_true rfl)) dX4_select_19 ⟨Nat.zero_le _, Nat.zero_le _⟩) hS hD hA rfl (fun H locs hP hD hS => ?_)
      have hP : va_P (dC, dI) vwCl (wM cs b (un g 0 1) h) H := hP
      have hD : va_D A (wM cs b (un g 0 1) h) := hD
      refine W.eq (g2 := F0 m 22 ls (.int (nI 1) :: [])) rfl ?_
      have hB : m_bd (un g 0 1) := by (unfold m_bd un; simp; omega)
      refine lv_if_eq (tgt := 27) hx hb dX4_select_22 (by decide) (fun c => absurd c (by decide)) (fun _ => ?_)
      refine lv_iconst (v := nI 0) hx hb dX4_select_25 (by decide) ?_
      exact wr_iret hx hb hr hlocks hP hS dX4_select_26

set_option maxHeartbeats 4000000 in
set_option maxRecDepth 100000 in
theorem c_X4_select_v (l : Launch) (dC : Nat → ClassId) (dI : Nat → Nat → Nat) (cs : ClassId × ClassId) (b g : Nat → Nat) (h : Nat → Nat → Int32) (sz : Nat) (ka : Nat) (hok : m_okr g h) (hB : m_bd g) (h1 : 1 ≤ ka) (h2 : ka ≤ 8)  : Met l yX4_select wsX4_select ({ frames := 2, cells := 0, slots := 0, locals := 42 }) (wrPc (dC, dI) vwCl (wM cs b g h) (tyl cs) sz [.ref (b 0), .int (nI ka)]) (wrQ (dC, dI) vwCl (wM cs b (un g 0 0) (m_se g ka 8 0 h 0).2) (some (.int (nI ((m_se g ka 8 0 h 0).1)))) (va_A (wM cs b g h) sz)) 0 0 (va_A (wM cs b g h) sz) := by
  refine wr_of (cc := cX4_select) (maxL := 5) (ret := (some .int)) (own := RX4) (by decide) rfl rfl (Nat.le_of_ble_eq_true rfl) ?_
  intro p e s m below meth c A hsz hAe hx hb hr hml hts hown hlocks hP hK hD hA hS ls hl
  have hl : lv_has ls 5 [(0, .ref (b 0)), (1, .int (nI ka))] := hl
  have hinX4 : ∀ w ∈ wsX40, w ∈ wsX4_select := by decide +kernel
  obtain ⟨M1, M2, M3, M4, M5, M6, M7, M8, M9, M10, M11, M12, M13, M14, M15, M16⟩ := id hB
  refine lv_aload_n hx hb dX4_select_0 rfl (lv_at hl 0 rfl) ?_
  refine lv_iload_n hx hb dX4_select_1 rfl (lv_at hl 1 rfl) ?_
  refine lv_iconst (v := nI 1) hx hb dX4_select_2 (by decide) ?_
  refine lv_icmp_lt (tgt := 12) hx hb dX4_select_3 (by decide) (fun c_1 => absurd ((nI_ltI (by omega) (by omega)).mp c_1) (by omega)) (fun c_1 => ?_)
  have c_1 : ¬ ka < 1 := fun q => c_1 ((nI_ltI (by omega) (by omega)).mpr q)
  refine lv_iload_n hx hb dX4_select_6 rfl (lv_at hl 1 rfl) ?_
  refine lv_bipush (v := nI 8) hx hb dX4_select_7 (by decide) ?_
  refine lv_icmp_le (tgt := 16) hx hb dX4_select_9 (by decide) (fun c_2 => ?_) (fun c_2 => absurd (nI_le (by omega) (by omega)) c_2)
  have c_2 : ka ≤ 8 := (nI_leI (by omega) (by omega)).mp c_2
  refine lv_iconst (v := nI 0) hx hb dX4_select_16 (by decide) ?_
  refine lv_iconst (v := nI 0) hx hb dX4_select_17 (by decide) ?_
  refine lv_iconst (v := nI 0) hx hb dX4_select_18 (by decide) ?_
  refine wr_calli (va_runV (As := [.int (nI 0), .int (nI 0), .int (nI 0)]) (rest := []) ⟨hx, hb, hml, hown, hts⟩ (c_X4_throwing l dC dI cs b g h s.heap.size 0 0 0 hB (by decide) (by decide) (by decide)) (cwV 3 hts gX4_select_X4_throwing rfl rfl rfl (by decide +kernel) ⟨Nat.le_of_ble_eq_true rfl, Nat.le_of_ble_eq_true rfl⟩) (wr_preV (q := (RX4, TX4, 29)) hP hK hD 0 rfl rfl) rfl rfl hl.1 rfl (lv_room (Nat.le_of_ble_eq_true rfl)) dX4_select_19 ⟨Nat.zero_le _, Nat.zero_le _⟩) hS hD hA rfl (fun H locs hP hD hS => ?_)
  have hP : va_P (dC, dI) vwCl (wM cs b (un g 0 0) h) H := hP
  have hD : va_D A (wM cs b (un g 0 0) h) := hD
  refine W.eq (g2 := F0 m 22 ls (.int (nI 0) :: [])) rfl ?_
  have hB : m_bd (un g 0 0) := by (unfold m_bd un; simp; omega)
  refine lv_if_eq (tgt := 27) hx hb dX4_select_22 (by decide) (fun _ => ?_) (fun c => absurd (by decide) c)
  refine lv_iconst (v := nI 0) hx hb dX4_select_27 (by decide) ?_
  refine lv_istore_n (lv' := [(2, .int (nI 0)), (0, .ref (b 0)), (1, .int (nI ka))]) hx hb dX4_select_28 rfl hl (by decide) rfl (fun ls hl => ?_)
  refine lv_iconst (v := nI 0) hx hb dX4_select_29 (by decide) ?_
  refine lv_istore_n (lv' := [(3, .int (nI 0)), (2, .int (nI 0)), (0, .ref (b 0)), (1, .int (nI ka))]) hx hb dX4_select_30 rfl hl (by decide) rfl (fun ls hl => ?_)
  have key : ∀ (i pn v : Nat) (F : Nat → Nat → Int32), pn + i = 8 → m_okr g F → m_se g ka 8 0 h 0 = m_se g ka i pn F v → ∀ (H : Heap) (locs : List Loc), va_P (dC, dI) vwCl (wM cs b (un g 0 0) F) H → va_D A (wM cs b (un g 0 0) F) → va_S A s.heap H locs → ∀ ls : Array Slot, lv_has ls 5 [(3, .int (nI pn)), (2, .int (nI v)), (0, .ref (b 0)), (1, .int (nI ka))] → W p l e ({ frames := 2, cells := 0, slots := 0, locals := 42 } : Room) s m ([.ref (b 0), .int (nI ka)] : List Value).toArray below meth c H locs 0 0 (MQ below (wrQ (dC, dI) vwCl (wM cs b (un g 0 0) (m_se g ka 8 0 h 0).2) (some (.int (nI ((m_se g ka 8 0 h 0).1)))) A) ([.ref (b 0), .int (nI ka)] : List Value).toArray s 0 0 A) (F0 m 31 ls []) := by
    intro k
    induction k with
    | zero =>
      intro pn v F hp hok hs H locs hP hD hS ls hl
      refine lv_iload_n hx hb dX4_select_31 rfl (lv_at hl 0 rfl) ?_
      refine lv_bipush (v := nI 8) hx hb dX4_select_32 (by decide) ?_
      refine lv_icmp_ge (tgt := 128) hx hb dX4_select_34 (by decide) (fun c_4 => ?_) (fun c_4 => absurd (nI_le (by omega) (by omega)) c_4)
      have c_4 : 8 ≤ pn := (nI_leI (by omega) (by omega)).mp c_4
      refine lv_iload_n hx hb dX4_select_128 rfl (lv_at hl 1 rfl) ?_
      have hP : va_P (dC, dI) vwCl (wM cs b (un g 0 0) (m_se g ka 8 0 h 0).2) H := by
        have e9 : (wM cs b (un g 0 0) F) = (wM cs b (un g 0 0) (m_se g ka 8 0 h 0).2) := by rw [hs]; rfl
        rw [← e9]; exact hP
      refine tp_eq (show _ = nI ((m_se g ka 8 0 h 0).1) by rw [hs]; rfl) ?_
      exact wr_iret hx hb hr hlocks hP hS dX4_select_129
    | succ k ih =>
      intro pn v F hp hok hs H locs hP hD hS ls hl
      refine lv_iload_n hx hb dX4_select_31 rfl (lv_at hl 0 rfl) ?_
      refine lv_bipush (v := nI 8) hx hb dX4_select_32 (by decide) ?_
      refine lv_icmp_ge (tgt := 128) hx hb dX4_select_34 (by decide) (fun c_5 => absurd ((nI_leI (by omega) (by omega)).mp c_5) (by omega)) (fun c_5 => ?_)
      have c_5 : ¬ 8 ≤ pn := fun q => c_5 ((nI_leI (by omega) (by omega)).mpr q)
      refine lv_aload_n hx hb dX4_select_37 rfl (lv_at hl 2 rfl) ?_
      refine va_get (D := (dC, dI)) (ci := 5) (v := .ref (b 24)) (C := RX4) (T := TX4) (N := 29) hx hb hts hinX4 hown hK hP 0 rfl rfl 24 (by decide) (hts (.fieldLink RX4 56 "RenameRowsModel" "went" "[I") (by decide +kernel)) (fun _ h9 => h9) rfl dX4_select_38 ?_
      refine lv_iload_n hx hb dX4_select_41 rfl (lv_at hl 0 rfl) ?_
      refine lv_iconst (v := (-1)) hx hb dX4_select_42 (by decide) ?_
      refine ar_st (D := (dC, dI)) (n := 8) (f := F 24) hx hb hK hP hD hS 16 0 rfl rfl (by omega) (by omega) dX4_select_43 (fun H locs hP hD hS => ?_)
      have hP : va_P (dC, dI) vwCl (wM cs b (un g 0 0) (uf F 24 (upd (F 24) pn (-1)))) H := hP
      have hD : va_D A (wM cs b (un g 0 0) (uf F 24 (upd (F 24) pn (-1)))) := hD
      refine lv_iconst (v := nI 0) hx hb dX4_select_44 (by decide) ?_
      refine lv_istore (lv' := [(4, .int (nI 0)), (3, .int (nI pn)), (2, .int (nI v)), (0, .ref (b 0)), (1, .int (nI ka))]) hx hb dX4_select_45 hl (by decide) rfl (fun ls hl => ?_)
      have key2 : ∀ (k t w2 : Nat) (EE : Nat → Nat → Int32), t + k = g 10 → m_okr g EE → m_in g ka pn (g 10) 0 (uf F 24 (upd (F 24) pn (-1))) v = m_in g ka pn k t EE w2 → ∀ (H : Heap) (locs : List Loc), va_P (dC, dI) vwCl (wM cs b (un g 0 0) EE) H → va_D A (wM cs b (un g 0 0) EE) → va_S A s.heap H locs → ∀ ls : Array Slot, lv_has ls 5 [(4, .int (nI t)), (3, .int (nI pn)), (2, .int (nI w2)), (0, .ref (b 0)), (1, .int (nI ka))] → W p l e ({ frames := 2, cells := 0, slots := 0, locals := 42 } : Room) s m ([.ref (b 0), .int (nI ka)] : List Value).toArray below meth c H locs 0 0 (MQ below (wrQ (dC, dI) vwCl (wM cs b (un g 0 0) (m_se g ka 8 0 h 0).2) (some (.int (nI ((m_se g ka 8 0 h 0).1)))) A) ([.ref (b 0), .int (nI ka)] : List Value).toArray s 0 0 A) (F0 m 47 ls []) := by
        intro k
        induction k with
        | zero =>
          intro t w2 EE ht hok2 hs2 H locs hP hD hS ls hl
          refine lv_iload hx hb dX4_select_47 (lv_at hl 0 rfl) ?_
          refine lv_aload_n hx hb dX4_select_49 rfl (lv_at hl 3 rfl) ?_
          refine va_get (D := (dC, dI)) (ci := 5) (v := .int (nI (g 10))) (C := RX4) (T := TX4) (N := 29) hx hb hts hinX4 hown hK hP 0 rfl rfl 10 (by decide) (hts (.fieldLink RX4 86 "RenameRowsModel" "rows" "I") (by decide +kernel)) (fun _ h9 => h9) rfl dX4_select_50 ?_
          refine lv_icmp_ge (tgt := 122) hx hb dX4_select_53 (by decide) (fun c_6 => ?_) (fun c_6 => absurd (nI_le (by omega) (by omega)) c_6)
          have c_6 : (g 10) ≤ t := (nI_leI (by omega) (by omega)).mp c_6
          refine lv_iinc (v := nI (pn + 1)) (lv' := [(3, .int (nI (pn + 1))), (4, .int (nI t)), (2, .int (nI w2)), (0, .ref (b 0)), (1, .int (nI ka))]) hx hb dX4_select_122 hl (k := 1) rfl (nI_succ pn).symm (by decide) rfl (fun ls hl => ?_)
          refine lv_goto (tgt := 31) hx hb dX4_select_125 (by decide) ?_
          exact ih (pn + 1) w2 EE (by omega) hok2 (by rw [hs, m_se, hs2]; simp [m_in]) H locs hP hD hS ls (lv_sub hl [0, 2, 3, 4] rfl)
        | succ k ih2 =>
          intro t w2 EE ht hok2 hs2 H locs hP hD hS ls hl
          refine lv_iload hx hb dX4_select_47 (lv_at hl 0 rfl) ?_
          refine lv_aload_n hx hb dX4_select_49 rfl (lv_at hl 3 rfl) ?_
          refine va_get (D := (dC, dI)) (ci := 5) (v := .int (nI (g 10))) (C := RX4) (T := TX4) (N := 29) hx hb hts hinX4 hown hK hP 0 rfl rfl 10 (by decide) (hts (.fieldLink RX4 86 "RenameRowsModel" "rows" "I") (by decide +kernel)) (fun _ h9 => h9) rfl dX4_select_50 ?_
          refine lv_icmp_ge (tgt := 122) hx hb dX4_select_53 (by decide) (fun c_7 => absurd ((nI_leI (by omega) (by omega)).mp c_7) (by omega)) (fun c_7 => ?_)
          have c_7 : ¬ (g 10) ≤ t := fun q => c_7 ((nI_leI (by omega) (by omega)).mpr q)
          refine lv_iload_n hx hb dX4_select_56 rfl (lv_at hl 1 rfl) ?_
          refine lv_iload_n hx hb dX4_select_57 rfl (lv_at hl 4 rfl) ?_
          refine lv_icmp_ge (tgt := 122) hx hb dX4_select_58 (by decide) (fun c_8 => ?_) (fun c_8 => ?_)
          · have c_8 : ka ≤ pn := (nI_leI (by omega) (by omega)).mp c_8
            refine lv_iinc (v := nI (pn + 1)) (lv' := [(3, .int (nI (pn + 1))), (4, .int (nI t)), (2, .int (nI w2)), (0, .ref (b 0)), (1, .int (nI ka))]) hx hb dX4_select_122 hl (k := 1) rfl (nI_succ pn).symm (by decide) rfl (fun ls hl => ?_)
            refine lv_goto (tgt := 31) hx hb dX4_select_125 (by decide) ?_
            exact ih (pn + 1) w2 EE (by omega) hok2 (by rw [hs, m_se, hs2]; simp [m_in, show ¬ pn < ka from by omega]) H locs hP hD hS ls (lv_sub hl [0, 2, 3, 4] rfl)
          · have c_8 : ¬ ka ≤ pn := fun q => c_8 ((nI_leI (by omega) (by omega)).mpr q)
            refine lv_aload_n hx hb dX4_select_61 rfl (lv_at hl 3 rfl) ?_
            refine va_get (D := (dC, dI)) (ci := 5) (v := .ref (b 24)) (C := RX4) (T := TX4) (N := 29) hx hb hts hinX4 hown hK hP 0 rfl rfl 24 (by decide) (hts (.fieldLink RX4 56 "RenameRowsModel" "went" "[I") (by decide +kernel)) (fun _ h9 => h9) rfl dX4_select_62 ?_
            refine lv_iload_n hx hb dX4_select_65 rfl (lv_at hl 1 rfl) ?_
            refine ar_ld (D := (dC, dI)) (n := 8) (f := EE 24) hx hb hK hP 16 0 rfl rfl (by omega) (by omega) dX4_select_66 ?_
            refine lv_if_ge (tgt := 122) hx hb dX4_select_67 (by decide) (fun c_9 => ?_) (fun c_9 => ?_)
            · refine lv_iinc (v := nI (pn + 1)) (lv' := [(3, .int (nI (pn + 1))), (4, .int (nI t)), (2, .int (nI w2)), (0, .ref (b 0)), (1, .int (nI ka))]) hx hb dX4_select_122 hl (k := 1) rfl (nI_succ pn).symm (by decide) rfl (fun ls hl => ?_)
              refine lv_goto (tgt := 31) hx hb dX4_select_125 (by decide) ?_
              exact ih (pn + 1) w2 EE (by omega) hok2 (by rw [hs, m_se, hs2]; simp [m_in, c_9]) H locs hP hD hS ls (lv_sub hl [0, 2, 3, 4] rfl)
            · refine lv_aload_n hx hb dX4_select_70 rfl (lv_at hl 3 rfl) ?_
              refine va_get (D := (dC, dI)) (ci := 5) (v := .ref (b 17)) (C := RX4) (T := TX4) (N := 29) hx hb hts hinX4 hown hK hP 0 rfl rfl 17 (by decide) (hts (.fieldLink RX4 41 "RenameRowsModel" "ports" "[I") (by decide +kernel)) (fun _ h9 => h9) rfl dX4_select_71 ?_
              refine lv_iload hx hb dX4_select_74 (lv_at hl 0 rfl) ?_
              refine ar_ld (D := (dC, dI)) (n := 64) (f := EE 17) hx hb hK hP 11 0 rfl rfl (by omega) (by omega) dX4_select_76 ?_
              refine lv_iload_n hx hb dX4_select_77 rfl (lv_at hl 1 rfl) ?_
              refine lv_icmp_ne (tgt := 116) hx hb dX4_select_78 (by decide) (fun c_10 => ?_) (fun c_10 => ?_)
              · refine lv_iinc (v := nI (t + 1)) (lv' := [(4, .int (nI (t + 1))), (3, .int (nI pn)), (2, .int (nI w2)), (0, .ref (b 0)), (1, .int (nI ka))]) hx hb dX4_select_116 hl (k := 0) rfl (nI_succ t).symm (by decide) rfl (fun ls hl => ?_)
                refine lv_goto (tgt := 47) hx hb dX4_select_119 (by decide) ?_
                exact ih2 (t + 1) (w2) EE (by omega) hok2 (by rw [hs2, m_in, if_pos ⟨by omega, c_9⟩]; simp [c_10]; try rfl) H locs hP hD hS ls (lv_sub hl [0, 1, 2, 3, 4] rfl)
              · obtain ⟨o1, o2⟩ := hok2 t (by omega)
                refine lv_aload_n hx hb dX4_select_81 rfl (lv_at hl 3 rfl) ?_
                refine lv_iload hx hb dX4_select_82 (lv_at hl 0 rfl) ?_
                refine W.callR (W.runV (As := [.int (nI t)]) (rest := []) ⟨hx, hb, hml, hown, hts⟩ (c_X4_mayGo l dC dI cs b (un g 0 0) EE t hB (by first | omega | assumption) (by first | omega | assumption) (by first | omega | assumption)) (cwV 1 hts gX4_select_X4_mayGo rfl rfl rfl (by decide +kernel) ⟨Nat.le_of_ble_eq_true rfl, Nat.le_of_ble_eq_true rfl⟩) (rd_preV (q := (RX4, TX4, 29)) hP hK 0 rfl rfl) rfl rfl hl.1 rfl (lv_room (Nat.le_of_ble_eq_true rfl)) dX4_select_84 ⟨Nat.zero_le _, Nat.zero_le _⟩) ?_
                refine W.eq (g2 := F0 m 87 ls (.int (b2i (m_may EE t)) :: [])) rfl ?_
                refine lv_if_ne (tgt := 93) hx hb dX4_select_87 (by decide) (fun c_11 => ?_) (fun c_11 => ?_)
                · have c_11 : m_may EE t = true := b2i_t c_11
                  refine lv_aload_n hx hb dX4_select_93 rfl (lv_at hl 3 rfl) ?_
                  refine va_get (D := (dC, dI)) (ci := 5) (v := .ref (b 18)) (C := RX4) (T := TX4) (N := 29) hx hb hts hinX4 hown hK hP 0 rfl rfl 18 (by decide) (hts (.fieldLink RX4 44 "RenameRowsModel" "state" "[I") (by decide +kernel)) (fun _ h9 => h9) rfl dX4_select_94 ?_
                  refine lv_iload hx hb dX4_select_97 (lv_at hl 0 rfl) ?_
                  refine lv_iconst (v := nI 1) hx hb dX4_select_99 (by decide) ?_
                  refine ar_st (D := (dC, dI)) (n := 64) (f := EE 18) hx hb hK hP hD hS 12 0 rfl rfl (by omega) (by omega) dX4_select_100 (fun H locs hP hD hS => ?_)
                  have hP : va_P (dC, dI) vwCl (wM cs b (un g 0 0) (uf EE 18 (upd (EE 18) t (nI 1)))) H := hP
                  have hD : va_D A (wM cs b (un g 0 0) (uf EE 18 (upd (EE 18) t (nI 1)))) := hD
                  refine lv_aload_n hx hb dX4_select_101 rfl (lv_at hl 3 rfl) ?_
                  refine va_get (D := (dC, dI)) (ci := 5) (v := .ref (b 24)) (C := RX4) (T := TX4) (N := 29) hx hb hts hinX4 hown hK hP 0 rfl rfl 24 (by decide) (hts (.fieldLink RX4 56 "RenameRowsModel" "went" "[I") (by decide +kernel)) (fun _ h9 => h9) rfl dX4_select_102 ?_
                  refine lv_iload_n hx hb dX4_select_105 rfl (lv_at hl 1 rfl) ?_
                  refine lv_aload_n hx hb dX4_select_106 rfl (lv_at hl 3 rfl) ?_
                  refine lv_iload hx hb dX4_select_107 (lv_at hl 0 rfl) ?_
                  refine W.callR (W.runV (As := [.int (nI t)]) (rest := [.int (nI pn), .ref (b 24)]) ⟨hx, hb, hml, hown, hts⟩ (c_X4_placeOf l dC dI cs b (un g 0 0) (uf EE 18 (upd (EE 18) t (nI 1))) t hB (by first | omega | assumption)) (cwV 1 hts gX4_select_X4_placeOf rfl rfl rfl (by decide +kernel) ⟨Nat.le_of_ble_eq_true rfl, Nat.le_of_ble_eq_true rfl⟩) (rd_preV (q := (RX4, TX4, 29)) hP hK 0 rfl rfl) rfl rfl hl.1 rfl (lv_room (Nat.le_of_ble_eq_true rfl)) dX4_select_109 ⟨Nat.zero_le _, Nat.zero_le _⟩) ?_
                  refine W.eq (g2 := F0 m 112 ls (.int (nI (m_pos (un g 0 0) t)) :: [.int (nI pn), .ref (b 24)])) rfl ?_
                  have k_12 := m_pos_lt (g := (un g 0 0)) (j := t) (by first | omega | exact M5)
                  refine ar_st (D := (dC, dI)) (n := 8) (f := EE 24) hx hb hK hP hD hS 16 0 rfl rfl (by omega) (by omega) dX4_select_112 (fun H locs hP hD hS => ?_)
                  have hP : va_P (dC, dI) vwCl (wM cs b (un g 0 0) (uf (uf EE 18 (upd (EE 18) t (nI 1))) 24 (upd (EE 24) pn (nI (m_pos (un g 0 0) t))))) H := hP
                  have hD : va_D A (wM cs b (un g 0 0) (uf (uf EE 18 (upd (EE 18) t (nI 1))) 24 (upd (EE 24) pn (nI (m_pos (un g 0 0) t))))) := hD
                  refine lv_iinc (v := nI (w2 + 1)) (lv' := [(2, .int (nI (w2 + 1))), (4, .int (nI t)), (3, .int (nI pn)), (0, .ref (b 0)), (1, .int (nI ka))]) hx hb dX4_select_113 hl (k := 2) rfl (nI_succ w2).symm (by decide) rfl (fun ls hl => ?_)
                  refine lv_iinc (v := nI (t + 1)) (lv' := [(4, .int (nI (t + 1))), (2, .int (nI (w2 + 1))), (3, .int (nI pn)), (0, .ref (b 0)), (1, .int (nI ka))]) hx hb dX4_select_116 hl (k := 1) rfl (nI_succ t).symm (by decide) rfl (fun ls hl => ?_)
                  refine lv_goto (tgt := 47) hx hb dX4_select_119 (by decide) ?_
                  exact ih2 (t + 1) (w2 + 1) (uf (uf EE 18 (upd (EE 18) t (nI 1))) 24 (upd (EE 24) pn (nI (m_pos (un g 0 0) t)))) (by omega) (fun i hi => hok2 i hi) (by rw [hs2, m_in, if_pos ⟨by omega, c_9⟩]; simp [c_10, c_11]; try rfl) H locs hP hD hS ls (lv_sub hl [0, 2, 1, 3, 4] rfl)
                · have c_11 : m_may EE t = false := b2i_f c_11
                  refine lv_goto (tgt := 116) hx hb dX4_select_90 (by decide) ?_
                  refine lv_iinc (v := nI (t + 1)) (lv' := [(4, .int (nI (t + 1))), (3, .int (nI pn)), (2, .int (nI w2)), (0, .ref (b 0)), (1, .int (nI ka))]) hx hb dX4_select_116 hl (k := 0) rfl (nI_succ t).symm (by decide) rfl (fun ls hl => ?_)
                  refine lv_goto (tgt := 47) hx hb dX4_select_119 (by decide) ?_
                  exact ih2 (t + 1) (w2) EE (by omega) hok2 (by rw [hs2, m_in, if_pos ⟨by omega, c_9⟩]; simp [c_10, c_11]; try rfl) H locs hP hD hS ls (lv_sub hl [0, 1, 2, 3, 4] rfl)
      exact key2 (g 10) 0 v (uf F 24 (upd (F 24) pn (-1))) (by omega) (fun i hi => hok i hi) rfl _ _ hP hD hS ls (lv_sub hl [0, 1, 2, 3, 4] rfl)
  exact key 8 0 0 h (by omega) hok rfl _ _ hP hD hS ls (lv_sub hl [0, 1, 2, 3] rfl)

set_option maxHeartbeats 4000000 in
set_option maxRecDepth 100000 in
theorem c_X4_commit_x (l : Launch) (dC : Nat → ClassId) (dI : Nat → Nat → Nat) (cs : ClassId × ClassId) (b g : Nat → Nat) (h : Nat → Nat → Int32) (sz : Nat) (y : Int32) (hbad : y < 0) (hB : m_bd g)  : Met l yX4_commit wsX4_commit ({ frames := 1, cells := 0, slots := 0, locals := 23 }) (wrPc (dC, dI) vwCl (wM cs b g h) (tyl cs) sz [.ref (b 0), .int y]) (wrQ (dC, dI) vwCl (wM cs b (un g 0 1) h) (some (.int (nI 0))) (va_A (wM cs b g h) sz)) 0 0 (va_A (wM cs b g h) sz) := by
  refine wr_of (cc := cX4_commit) (maxL := 3) (ret := (some .int)) (own := RX4) (by decide) rfl rfl (Nat.le_of_ble_eq_true rfl) ?_
  intro p e s m below meth c A hsz hAe hx hb hr hml hts hown hlocks hP hK hD hA hS ls hl
  have hl : lv_has ls 3 [(0, .ref (b 0)), (1, .int y)] := hl
  obtain ⟨M1, M2, M3, M4, M5, M6, M7, M8, M9, M10, M11, M12, M13, M14, M15, M16⟩ := id hB
  refine lv_aload_n hx hb dX4_commit_0 rfl (lv_at hl 0 rfl) ?_
  refine lv_iload_n hx hb dX4_commit_1 rfl (lv_at hl 1 rfl) ?_
  refine lv_if_ge (tgt := 9) hx hb dX4_commit_2 (by decide) (fun c_1 => absurd hbad (nl32 c_1)) (fun c_1 => ?_)
  refine lv_iconst (v := nI 1) hx hb dX4_commit_5 (by decide) ?_
  refine lv_goto (tgt := 10) hx hb dX4_commit_6 (by decide) ?_
  refine lv_iconst (v := nI 0) hx hb dX4_commit_10 (by decide) ?_
  refine lv_iconst (v := nI 0) hx hb dX4_commit_11 (by decide) ?_
  refine wr_calli (va_runV (As := [.int (nI 1), .int (nI 0), .int (nI 0)]) (rest := []) ⟨hx, hb, hml, hown, hts⟩ (c_X4_throwing l dC dI cs b g h s.heap.size 1 0 0 hB (by decide) (by decide) (by decide)) (cwV 3 hts gX4_commit_X4_throwing rfl rfl rfl (by decide +kernel) ⟨Nat.le_of_ble_eq_true rfl, Nat.le_of_ble_eq_true rfl⟩) (wr_preV (q := (RX4, TX4, 29)) hP hK hD 0 rfl rfl) rfl rfl hl.1 rfl (lv_room (Nat.le_of_ble_eq_true rfl)) dX4_commit_12 ⟨Nat.zero_le _, Nat.zero_le _⟩) hS hD hA rfl (fun H locs hP hD hS => ?_)
  have hP : va_P (dC, dI) vwCl (wM cs b (un g 0 1) h) H := hP
  have hD : va_D A (wM cs b (un g 0 1) h) := hD
  refine W.eq (g2 := F0 m 15 ls (.int (nI 1) :: [])) rfl ?_
  have hB : m_bd (un g 0 1) := by (unfold m_bd un; simp; omega)
  refine lv_if_eq (tgt := 20) hx hb dX4_commit_15 (by decide) (fun c => absurd c (by decide)) (fun _ => ?_)
  refine lv_iconst (v := nI 0) hx hb dX4_commit_18 (by decide) ?_
  exact wr_iret hx hb hr hlocks hP hS dX4_commit_19

set_option maxHeartbeats 4000000 in
set_option maxRecDepth 100000 in
theorem c_X4_commit_v (l : Launch) (dC : Nat → ClassId) (dI : Nat → Nat → Nat) (cs : ClassId × ClassId) (b g : Nat → Nat) (h : Nat → Nat → Int32) (sz : Nat) (ka : Nat) (hsafe : m_cs ka (g 10) 0 (un g 0 0) h) (hB : m_bd g) (h1 : ka < 2 ^ 31)  : Met l yX4_commit wsX4_commit ({ frames := 1, cells := 0, slots := 0, locals := 23 }) (wrPc (dC, dI) vwCl (wM cs b g h) (tyl cs) sz [.ref (b 0), .int (nI ka)]) (wrQ (dC, dI) vwCl (wM cs b (m_cm ka (g 10) 0 (un g 0 0) h).2.1 (m_cm ka (g 10) 0 (un g 0 0) h).2.2) (some (.int (nI ((m_cm ka (g 10) 0 (un g 0 0) h).1)))) (va_A (wM cs b g h) sz)) 0 0 (va_A (wM cs b g h) sz) := by
  refine wr_of (cc := cX4_commit) (maxL := 3) (ret := (some .int)) (own := RX4) (by decide) rfl rfl (Nat.le_of_ble_eq_true rfl) ?_
  intro p e s m below meth c A hsz hAe hx hb hr hml hts hown hlocks hP hK hD hA hS ls hl
  have hl : lv_has ls 3 [(0, .ref (b 0)), (1, .int (nI ka))] := hl
  have hinX4 : ∀ w ∈ wsX40, w ∈ wsX4_commit := by decide +kernel
  obtain ⟨M1, M2, M3, M4, M5, M6, M7, M8, M9, M10, M11, M12, M13, M14, M15, M16⟩ := id hB
  refine lv_aload_n hx hb dX4_commit_0 rfl (lv_at hl 0 rfl) ?_
  refine lv_iload_n hx hb dX4_commit_1 rfl (lv_at hl 1 rfl) ?_
  refine lv_if_ge (tgt := 9) hx hb dX4_commit_2 (by decide) (fun _ => ?_) (fun c => absurd (nI_pos' (by omega)) c)
  refine lv_iconst (v := nI 0) hx hb dX4_commit_9 (by decide) ?_
  refine lv_iconst (v := nI 0) hx hb dX4_commit_10 (by decide) ?_
  refine lv_iconst (v := nI 0) hx hb dX4_commit_11 (by decide) ?_
  refine wr_calli (va_runV (As := [.int (nI 0), .int (nI 0), .int (nI 0)]) (rest := []) ⟨hx, hb, hml, hown, hts⟩ (c_X4_throwing l dC dI cs b g h s.heap.size 0 0 0 hB (by decide) (by decide) (by decide)) (cwV 3 hts gX4_commit_X4_throwing rfl rfl rfl (by decide +kernel) ⟨Nat.le_of_ble_eq_true rfl, Nat.le_of_ble_eq_true rfl⟩) (wr_preV (q := (RX4, TX4, 29)) hP hK hD 0 rfl rfl) rfl rfl hl.1 rfl (lv_room (Nat.le_of_ble_eq_true rfl)) dX4_commit_12 ⟨Nat.zero_le _, Nat.zero_le _⟩) hS hD hA rfl (fun H locs hP hD hS => ?_)
  have hP : va_P (dC, dI) vwCl (wM cs b (un g 0 0) h) H := hP
  have hD : va_D A (wM cs b (un g 0 0) h) := hD
  refine W.eq (g2 := F0 m 15 ls (.int (nI 0) :: [])) rfl ?_
  have hB : m_bd (un g 0 0) := by (unfold m_bd un; simp; omega)
  refine lv_if_eq (tgt := 20) hx hb dX4_commit_15 (by decide) (fun _ => ?_) (fun c => absurd (by decide) c)
  refine lv_iconst (v := nI 0) hx hb dX4_commit_20 (by decide) ?_
  refine lv_istore_n (lv' := [(2, .int (nI 0)), (0, .ref (b 0)), (1, .int (nI ka))]) hx hb dX4_commit_21 rfl hl (by decide) rfl (fun ls hl => ?_)
  have key : ∀ (k v : Nat) (N : Nat → Nat) (F : Nat → Nat → Int32), N 10 = k → v + k ≤ 64 → m_bd N → m_cs ka k v N F → m_cm ka (g 10) 0 (un g 0 0) h = m_cm ka k v N F → ∀ (H : Heap) (locs : List Loc), va_P (dC, dI) vwCl (wM cs b N F) H → va_D A (wM cs b N F) → va_S A s.heap H locs → ∀ ls : Array Slot, lv_has ls 3 [(2, .int (nI v)), (0, .ref (b 0)), (1, .int (nI ka))] → W p l e ({ frames := 1, cells := 0, slots := 0, locals := 23 } : Room) s m ([.ref (b 0), .int (nI ka)] : List Value).toArray below meth c H locs 0 0 (MQ below (wrQ (dC, dI) vwCl (wM cs b (m_cm ka (g 10) 0 (un g 0 0) h).2.1 (m_cm ka (g 10) 0 (un g 0 0) h).2.2) (some (.int (nI ((m_cm ka (g 10) 0 (un g 0 0) h).1)))) A) ([.ref (b 0), .int (nI ka)] : List Value).toArray s 0 0 A) (F0 m 22 ls []) := by
    intro k
    induction k with
    | zero =>
      intro v N F hk hv hB hsf hs H locs hP hD hS ls hl
      obtain ⟨E1, E2, E3, E4, E5, E6, E7, E8, E9, E10, E11, E12, E13, E14, E15, E16⟩ := id hB
      refine lv_iload_n hx hb dX4_commit_22 rfl (lv_at hl 0 rfl) ?_
      refine lv_iload_n hx hb dX4_commit_23 rfl (lv_at hl 2 rfl) ?_
      refine lv_icmp_ge (tgt := 111) hx hb dX4_commit_24 (by decide) (fun c_3 => ?_) (fun c_3 => ?_)
      · have c_3 : ka ≤ v := (nI_leI (by omega) (by omega)).mp c_3
        refine lv_iload_n hx hb dX4_commit_111 rfl (lv_at hl 0 rfl) ?_
        have hP : va_P (dC, dI) vwCl (wM cs b (m_cm ka (g 10) 0 (un g 0 0) h).2.1 (m_cm ka (g 10) 0 (un g 0 0) h).2.2) H := by
          have e9 : (wM cs b N F) = (wM cs b (m_cm ka (g 10) 0 (un g 0 0) h).2.1 (m_cm ka (g 10) 0 (un g 0 0) h).2.2) := by first | (rw [hs]; rfl) | (rw [hs]; simp [m_cm, m_cc, c_3]; done) | (rw [hs, m_cm, if_neg]; simp [m_cc]; intros; first | omega | (exact nl32 c_3) | (exact absurd (by assumption) c_3))
          rw [← e9]; exact hP
        refine tp_eq (show _ = nI ((m_cm ka (g 10) 0 (un g 0 0) h).1) by first | (rw [hs]; rfl) | (rw [hs]; simp [m_cm, m_cc, c_3]; done) | (rw [hs, m_cm, if_neg]; simp [m_cc]; intros; first | omega | (exact nl32 c_3) | (exact absurd (by assumption) c_3))) ?_
        exact wr_iret hx hb hr hlocks hP hS dX4_commit_112
      · have c_3 : ¬ ka ≤ v := fun q => c_3 ((nI_leI (by omega) (by omega)).mpr q)
        refine lv_aload_n hx hb dX4_commit_27 rfl (lv_at hl 1 rfl) ?_
        refine va_get (D := (dC, dI)) (ci := 5) (v := .int (nI (N 10))) (C := RX4) (T := TX4) (N := 29) hx hb hts hinX4 hown hK hP 0 rfl rfl 10 (by decide) (hts (.fieldLink RX4 86 "RenameRowsModel" "rows" "I") (by decide +kernel)) (fun _ h9 => h9) rfl dX4_commit_28 ?_
        refine lv_if_le (tgt := 111) hx hb dX4_commit_31 (by decide) (fun c_4 => ?_) (fun c_4 => absurd (show _ ≤ nI 0 from nI_le (by omega) (by omega)) c_4)
        have c_4 : (N 10) ≤ 0 := (nI_leI (by omega) (by omega)).mp (show _ ≤ nI 0 from c_4)
        refine lv_iload_n hx hb dX4_commit_111 rfl (lv_at hl 0 rfl) ?_
        have hP : va_P (dC, dI) vwCl (wM cs b (m_cm ka (g 10) 0 (un g 0 0) h).2.1 (m_cm ka (g 10) 0 (un g 0 0) h).2.2) H := by
          have e9 : (wM cs b N F) = (wM cs b (m_cm ka (g 10) 0 (un g 0 0) h).2.1 (m_cm ka (g 10) 0 (un g 0 0) h).2.2) := by first | (rw [hs]; rfl) | (rw [hs]; simp [m_cm, m_cc, c_4]; done) | (rw [hs, m_cm, if_neg]; simp [m_cc]; intros; first | omega | (exact nl32 c_4) | (exact absurd (by assumption) c_4))
          rw [← e9]; exact hP
        refine tp_eq (show _ = nI ((m_cm ka (g 10) 0 (un g 0 0) h).1) by first | (rw [hs]; rfl) | (rw [hs]; simp [m_cm, m_cc, c_4]; done) | (rw [hs, m_cm, if_neg]; simp [m_cc]; intros; first | omega | (exact nl32 c_4) | (exact absurd (by assumption) c_4))) ?_
        exact wr_iret hx hb hr hlocks hP hS dX4_commit_112
    | succ k ih =>
      intro v N F hk hv hB hsf hs H locs hP hD hS ls hl
      obtain ⟨E1, E2, E3, E4, E5, E6, E7, E8, E9, E10, E11, E12, E13, E14, E15, E16⟩ := id hB
      refine lv_iload_n hx hb dX4_commit_22 rfl (lv_at hl 0 rfl) ?_
      refine lv_iload_n hx hb dX4_commit_23 rfl (lv_at hl 2 rfl) ?_
      refine lv_icmp_ge (tgt := 111) hx hb dX4_commit_24 (by decide) (fun c_5 => ?_) (fun c_5 => ?_)
      · have c_5 : ka ≤ v := (nI_leI (by omega) (by omega)).mp c_5
        refine lv_iload_n hx hb dX4_commit_111 rfl (lv_at hl 0 rfl) ?_
        have hP : va_P (dC, dI) vwCl (wM cs b (m_cm ka (g 10) 0 (un g 0 0) h).2.1 (m_cm ka (g 10) 0 (un g 0 0) h).2.2) H := by
          have e9 : (wM cs b N F) = (wM cs b (m_cm ka (g 10) 0 (un g 0 0) h).2.1 (m_cm ka (g 10) 0 (un g 0 0) h).2.2) := by first | (rw [hs]; rfl) | (rw [hs]; simp [m_cm, m_cc, c_5]; done) | (rw [hs, m_cm, if_neg]; simp [m_cc]; intros; first | omega | (exact nl32 c_5) | (exact absurd (by assumption) c_5))
          rw [← e9]; exact hP
        refine tp_eq (show _ = nI ((m_cm ka (g 10) 0 (un g 0 0) h).1) by first | (rw [hs]; rfl) | (rw [hs]; simp [m_cm, m_cc, c_5]; done) | (rw [hs, m_cm, if_neg]; simp [m_cc]; intros; first | omega | (exact nl32 c_5) | (exact absurd (by assumption) c_5))) ?_
        exact wr_iret hx hb hr hlocks hP hS dX4_commit_112
      · have c_5 : ¬ ka ≤ v := fun q => c_5 ((nI_leI (by omega) (by omega)).mpr q)
        refine lv_aload_n hx hb dX4_commit_27 rfl (lv_at hl 1 rfl) ?_
        refine va_get (D := (dC, dI)) (ci := 5) (v := .int (nI (N 10))) (C := RX4) (T := TX4) (N := 29) hx hb hts hinX4 hown hK hP 0 rfl rfl 10 (by decide) (hts (.fieldLink RX4 86 "RenameRowsModel" "rows" "I") (by decide +kernel)) (fun _ h9 => h9) rfl dX4_commit_28 ?_
        refine lv_if_le (tgt := 111) hx hb dX4_commit_31 (by decide) (fun c_6 => absurd ((nI_leI (by omega) (by omega)).mp (show _ ≤ nI 0 from c_6)) (by omega)) (fun c_6 => ?_)
        have c_6 : ¬ (N 10) ≤ 0 := fun q => c_6 (show _ ≤ nI 0 from (nI_leI (by omega) (by omega)).mpr q)
        refine lv_aload_n hx hb dX4_commit_34 rfl (lv_at hl 1 rfl) ?_
        refine va_get (D := (dC, dI)) (ci := 5) (v := .ref (b 18)) (C := RX4) (T := TX4) (N := 29) hx hb hts hinX4 hown hK hP 0 rfl rfl 18 (by decide) (hts (.fieldLink RX4 44 "RenameRowsModel" "state" "[I") (by decide +kernel)) (fun _ h9 => h9) rfl dX4_commit_35 ?_
        refine lv_iconst (v := nI 0) hx hb dX4_commit_38 (by decide) ?_
        refine ar_ld (D := (dC, dI)) (n := 64) (f := F 18) hx hb hK hP 12 0 rfl rfl (by omega) (by omega) dX4_commit_39 ?_
        refine lv_iconst (v := nI 2) hx hb dX4_commit_40 (by decide) ?_
        refine lv_icmp_ne (tgt := 111) hx hb dX4_commit_41 (by decide) (fun c_7 => ?_) (fun c_7 => ?_)
        · refine lv_iload_n hx hb dX4_commit_111 rfl (lv_at hl 0 rfl) ?_
          have hP : va_P (dC, dI) vwCl (wM cs b (m_cm ka (g 10) 0 (un g 0 0) h).2.1 (m_cm ka (g 10) 0 (un g 0 0) h).2.2) H := by
            have e9 : (wM cs b N F) = (wM cs b (m_cm ka (g 10) 0 (un g 0 0) h).2.1 (m_cm ka (g 10) 0 (un g 0 0) h).2.2) := by first | (rw [hs]; rfl) | (rw [hs]; simp [m_cm, m_cc, c_7]; done) | (rw [hs, m_cm, if_neg]; simp [m_cc]; intros; first | omega | (exact nl32 c_7) | (exact absurd (by assumption) c_7))
            rw [← e9]; exact hP
          refine tp_eq (show _ = nI ((m_cm ka (g 10) 0 (un g 0 0) h).1) by first | (rw [hs]; rfl) | (rw [hs]; simp [m_cm, m_cc, c_7]; done) | (rw [hs, m_cm, if_neg]; simp [m_cc]; intros; first | omega | (exact nl32 c_7) | (exact absurd (by assumption) c_7))) ?_
          exact wr_iret hx hb hr hlocks hP hS dX4_commit_112
        · refine lv_aload_n hx hb dX4_commit_44 rfl (lv_at hl 1 rfl) ?_
          refine va_get (D := (dC, dI)) (ci := 5) (v := .int (nI (N 25))) (C := RX4) (T := TX4) (N := 29) hx hb hts hinX4 hown hK hP 0 rfl rfl 25 (by decide) (hts (.fieldLink RX4 127 "RenameRowsModel" "done" "I") (by decide +kernel)) (fun _ h9 => h9) rfl dX4_commit_45 ?_
          refine lv_aload_n hx hb dX4_commit_48 rfl (lv_at hl 1 rfl) ?_
          refine W.callR (W.runV (As := []) (rest := [.int (nI (N 25))]) ⟨hx, hb, hml, hown, hts⟩ (c_X4_bound l dC dI cs b N F hB) (cwV 0 hts gX4_commit_X4_bound rfl rfl rfl (by decide +kernel) ⟨Nat.le_of_ble_eq_true rfl, Nat.le_of_ble_eq_true rfl⟩) (rd_preV (q := (RX4, TX4, 29)) hP hK 0 rfl rfl) rfl rfl hl.1 rfl (lv_room (Nat.le_of_ble_eq_true rfl)) dX4_commit_49 ⟨Nat.zero_le _, Nat.zero_le _⟩) ?_
          refine W.eq (g2 := F0 m 52 ls (.int (m_bnd F) :: [.int (nI (N 25))])) rfl ?_
          refine lv_icmp_ge (tgt := 111) hx hb dX4_commit_52 (by decide) (fun c_8 => ?_) (fun c_8 => ?_)
          · refine lv_iload_n hx hb dX4_commit_111 rfl (lv_at hl 0 rfl) ?_
            have hP : va_P (dC, dI) vwCl (wM cs b (m_cm ka (g 10) 0 (un g 0 0) h).2.1 (m_cm ka (g 10) 0 (un g 0 0) h).2.2) H := by
              have e9 : (wM cs b N F) = (wM cs b (m_cm ka (g 10) 0 (un g 0 0) h).2.1 (m_cm ka (g 10) 0 (un g 0 0) h).2.2) := by first | (rw [hs]; rfl) | (rw [hs]; simp [m_cm, m_cc, c_8]; done) | (rw [hs, m_cm, if_neg]; simp [m_cc]; intros; first | omega | (exact nl32 c_8) | (exact absurd (by assumption) c_8))
              rw [← e9]; exact hP
            refine tp_eq (show _ = nI ((m_cm ka (g 10) 0 (un g 0 0) h).1) by first | (rw [hs]; rfl) | (rw [hs]; simp [m_cm, m_cc, c_8]; done) | (rw [hs, m_cm, if_neg]; simp [m_cc]; intros; first | omega | (exact nl32 c_8) | (exact absurd (by assumption) c_8))) ?_
            exact wr_iret hx hb hr hlocks hP hS dX4_commit_112
          · obtain ⟨hfs, hB9, hS9⟩ := hsf (by simp [m_cc, i32_ge c_8]; refine ⟨by omega, ?_⟩; first | exact c_7 | assumption)
            rcases hfs with h0 | ⟨r, q, e1, e2, e3, e4, e5⟩
            · refine lv_aload_n hx hb dX4_commit_55 rfl (lv_at hl 1 rfl) ?_
              refine va_get (D := (dC, dI)) (ci := 5) (v := .ref (b 16)) (C := RX4) (T := TX4) (N := 29) hx hb hts hinX4 hown hK hP 0 rfl rfl 16 (by decide) (hts (.fieldLink RX4 38 "RenameRowsModel" "register" "[I") (by decide +kernel)) (fun _ h9 => h9) rfl dX4_commit_56 ?_
              refine lv_iconst (v := nI 0) hx hb dX4_commit_59 (by decide) ?_
              refine ar_ld (D := (dC, dI)) (n := 64) (f := F 16) hx hb hK hP 10 0 rfl rfl (by omega) (by omega) dX4_commit_60 ?_
              refine tp_eq h0 ?_
              refine lv_if_lt (tgt := 91) hx hb dX4_commit_61 (by decide) (fun _ => ?_) (fun c => absurd (by decide) c)
              refine lv_aload_n hx hb dX4_commit_91 rfl (lv_at hl 1 rfl) ?_
              refine wr_callv (va_runV (As := []) (rest := []) ⟨hx, hb, hml, hown, hts⟩ (c_X4_shift l dC dI cs b N F H.size hB (by first | omega | assumption)) (cwV 0 hts gX4_commit_X4_shift rfl rfl rfl (by decide +kernel) ⟨Nat.le_of_ble_eq_true rfl, Nat.le_of_ble_eq_true rfl⟩) (wr_preV (q := (RX4, TX4, 29)) hP hK hD 0 rfl rfl) rfl rfl hl.1 rfl (lv_room (Nat.le_of_ble_eq_true rfl)) dX4_commit_92 ⟨Nat.zero_le _, Nat.zero_le _⟩) hS hD hA rfl (fun H locs hP hD hS => ?_)
              have hP : va_P (dC, dI) vwCl (wM cs b (un (un N 10 ((N 10) - 1)) 11 (((N 11) + 1) % (N 3))) (m_sh F (((N 10) - 1)))) H := hP
              have hD : va_D A (wM cs b (un (un N 10 ((N 10) - 1)) 11 (((N 11) + 1) % (N 3))) (m_sh F (((N 10) - 1)))) := hD
              refine lv_aload_n hx hb dX4_commit_95 rfl (lv_at hl 1 rfl) ?_
              refine lv_dup hx hb dX4_commit_96 rfl ?_
              refine va_get (D := (dC, dI)) (ci := 5) (v := .int (nI (N 25))) (C := RX4) (T := TX4) (N := 29) hx hb hts hinX4 hown hK hP 0 rfl rfl 25 (by decide) (hts (.fieldLink RX4 127 "RenameRowsModel" "done" "I") (by decide +kernel)) (fun _ h9 => h9) rfl dX4_commit_97 ?_
              refine lv_iconst (v := nI 1) hx hb dX4_commit_100 (by decide) ?_
              refine lv_iadd hx hb dX4_commit_101 ?_
              refine tp_eq (nI_add (N 25) 1) ?_
              refine va_put (D := (dC, dI)) (ci := 5) (v := .int (nI ((N 25) + 1))) (ty := .int) (C := RX4) (T := TX4) (N := 29) hx hb hts hinX4 tyX4 tyX4_ok nmX4 hown hK hP hD hS 0 rfl rfl 25 (by decide) (hts (.fieldLink RX4 127 "RenameRowsModel" "done" "I") (by decide +kernel)) (fun _ h9 => h9) rfl (by decide +kernel) rfl rfl (Nat.le_of_ble_eq_true rfl) dX4_commit_102 (fun H locs hP hD hS => ?_)
              have hP : va_P (dC, dI) vwCl (wM cs b (un (un (un N 10 ((N 10) - 1)) 11 (((N 11) + 1) % (N 3))) 25 ((N 25) + 1)) (m_sh F (((N 10) - 1)))) H := hP
              have hD : va_D A (wM cs b (un (un (un N 10 ((N 10) - 1)) 11 (((N 11) + 1) % (N 3))) 25 ((N 25) + 1)) (m_sh F (((N 10) - 1)))) := hD
              refine lv_iinc (v := nI (v + 1)) (lv' := [(2, .int (nI (v + 1))), (0, .ref (b 0)), (1, .int (nI ka))]) hx hb dX4_commit_105 hl (k := 0) rfl (nI_succ v).symm (by decide) rfl (fun ls hl => ?_)
              refine lv_goto (tgt := 22) hx hb dX4_commit_108 (by decide) ?_
              have e8 : m_stN N F = (un (un (un N 10 ((N 10) - 1)) 11 (((N 11) + 1) % (N 3))) 25 ((N 25) + 1)) := by simp [m_stN, m_shN, m_cgN, m_s5, h0]
              have e9 : m_stF N F = (m_sh F (((N 10) - 1))) := by simp [m_stF, m_cgF, m_cgN, m_s5, h0]
              have hP : va_P (dC, dI) vwCl (wM cs b (m_stN N F) (m_stF N F)) H := by
                rw [e8, e9]; exact hP
              have hD : va_D A (wM cs b (m_stN N F) (m_stF N F)) := hD.same rfl
              exact ih (v + 1) (m_stN N F) (m_stF N F) (by rw [m_stN_10]; omega) (by omega) hB9 hS9 (by rw [hs, m_cm, if_pos]; simp [m_cc, i32_ge c_8]; refine ⟨by omega, ?_⟩; first | exact c_7 | assumption) H locs hP hD hS ls (lv_sub hl [0, 1, 2] rfl)
            · refine lv_aload_n hx hb dX4_commit_55 rfl (lv_at hl 1 rfl) ?_
              refine va_get (D := (dC, dI)) (ci := 5) (v := .ref (b 16)) (C := RX4) (T := TX4) (N := 29) hx hb hts hinX4 hown hK hP 0 rfl rfl 16 (by decide) (hts (.fieldLink RX4 38 "RenameRowsModel" "register" "[I") (by decide +kernel)) (fun _ h9 => h9) rfl dX4_commit_56 ?_
              refine lv_iconst (v := nI 0) hx hb dX4_commit_59 (by decide) ?_
              refine ar_ld (D := (dC, dI)) (n := 64) (f := F 16) hx hb hK hP 10 0 rfl rfl (by omega) (by omega) dX4_commit_60 ?_
              refine tp_eq e1 ?_
              refine lv_if_lt (tgt := 91) hx hb dX4_commit_61 (by decide) (fun c => absurd c (nI_pos (by omega))) (fun _ => ?_)
              refine lv_aload_n hx hb dX4_commit_64 rfl (lv_at hl 1 rfl) ?_
              refine va_get (D := (dC, dI)) (ci := 5) (v := .ref (b 5)) (C := RX4) (T := TX4) (N := 29) hx hb hts hinX4 hown hK hP 0 rfl rfl 5 (by decide) (hts (.fieldLink RX4 13 "RenameRowsModel" "sure" "[I") (by decide +kernel)) (fun _ h9 => h9) rfl dX4_commit_65 ?_
              refine lv_aload_n hx hb dX4_commit_68 rfl (lv_at hl 1 rfl) ?_
              refine va_get (D := (dC, dI)) (ci := 5) (v := .ref (b 16)) (C := RX4) (T := TX4) (N := 29) hx hb hts hinX4 hown hK hP 0 rfl rfl 16 (by decide) (hts (.fieldLink RX4 38 "RenameRowsModel" "register" "[I") (by decide +kernel)) (fun _ h9 => h9) rfl dX4_commit_69 ?_
              refine lv_iconst (v := nI 0) hx hb dX4_commit_72 (by decide) ?_
              refine ar_ld (D := (dC, dI)) (n := 64) (f := F 16) hx hb hK hP 10 0 rfl rfl (by omega) (by omega) dX4_commit_73 ?_
              refine tp_eq e1 ?_
              refine lv_aload_n hx hb dX4_commit_74 rfl (lv_at hl 1 rfl) ?_
              refine va_get (D := (dC, dI)) (ci := 5) (v := .ref (b 14)) (C := RX4) (T := TX4) (N := 29) hx hb hts hinX4 hown hK hP 0 rfl rfl 14 (by decide) (hts (.fieldLink RX4 32 "RenameRowsModel" "gave" "[I") (by decide +kernel)) (fun _ h9 => h9) rfl dX4_commit_75 ?_
              refine lv_iconst (v := nI 0) hx hb dX4_commit_78 (by decide) ?_
              refine ar_ld (D := (dC, dI)) (n := 64) (f := F 14) hx hb hK hP 8 0 rfl rfl (by omega) (by omega) dX4_commit_79 ?_
              refine ar_st (D := (dC, dI)) (n := 32) (f := F 5) hx hb hK hP hD hS 2 0 rfl rfl (by omega) (by omega) dX4_commit_80 (fun H locs hP hD hS => ?_)
              have hP : va_P (dC, dI) vwCl (wM cs b N (uf F 5 (upd (F 5) r (F 14 0)))) H := hP
              have hD : va_D A (wM cs b N (uf F 5 (upd (F 5) r (F 14 0)))) := hD
              refine lv_aload_n hx hb dX4_commit_81 rfl (lv_at hl 1 rfl) ?_
              refine lv_aload_n hx hb dX4_commit_82 rfl (lv_at hl 1 rfl) ?_
              refine va_get (D := (dC, dI)) (ci := 5) (v := .ref (b 15)) (C := RX4) (T := TX4) (N := 29) hx hb hts hinX4 hown hK hP 0 rfl rfl 15 (by decide) (hts (.fieldLink RX4 35 "RenameRowsModel" "knew" "[I") (by decide +kernel)) (fun _ h9 => h9) rfl dX4_commit_83 ?_
              refine lv_iconst (v := nI 0) hx hb dX4_commit_86 (by decide) ?_
              refine ar_ld (D := (dC, dI)) (n := 64) (f := F 15) hx hb hK hP 9 0 rfl rfl (by omega) (by omega) dX4_commit_87 ?_
              refine tp_eq e3 ?_
              refine wr_callv (va_runV (As := [.int (nI q)]) (rest := []) ⟨hx, hb, hml, hown, hts⟩ (c_X4_giveBack l dC dI cs b N (uf F 5 (upd (F 5) r (F 14 0))) H.size q hB (by first | omega | assumption) (by first | omega | assumption)) (cwV 1 hts gX4_commit_X4_giveBack rfl rfl rfl (by decide +kernel) ⟨Nat.le_of_ble_eq_true rfl, Nat.le_of_ble_eq_true rfl⟩) (wr_preV (q := (RX4, TX4, 29)) hP hK hD 0 rfl rfl) rfl rfl hl.1 rfl (lv_room (Nat.le_of_ble_eq_true rfl)) dX4_commit_88 ⟨Nat.zero_le _, Nat.zero_le _⟩) hS hD hA rfl (fun H locs hP hD hS => ?_)
              have hP : va_P (dC, dI) vwCl (wM cs b (m_gN N (uf F 5 (upd (F 5) r (F 14 0))) q) (m_gF N (uf F 5 (upd (F 5) r (F 14 0))) q)) H := hP
              have hD : va_D A (wM cs b (m_gN N (uf F 5 (upd (F 5) r (F 14 0))) q) (m_gF N (uf F 5 (upd (F 5) r (F 14 0))) q)) := hD
              have hB : m_bd (m_gN N (uf F 5 (upd (F 5) r (F 14 0))) q) := by exact m_gN_bd hB (by omega)
              have kg3 : (m_gN N (uf F 5 (upd (F 5) r (F 14 0))) q) 3 = N 3 := m_gN_o (by decide)
              have kg10 : (m_gN N (uf F 5 (upd (F 5) r (F 14 0))) q) 10 = N 10 := m_gN_o (by decide)
              have kg11 : (m_gN N (uf F 5 (upd (F 5) r (F 14 0))) q) 11 = N 11 := m_gN_o (by decide)
              have kg25 : (m_gN N (uf F 5 (upd (F 5) r (F 14 0))) q) 25 = N 25 := m_gN_o (by decide)
              refine lv_aload_n hx hb dX4_commit_91 rfl (lv_at hl 1 rfl) ?_
              refine wr_callv (va_runV (As := []) (rest := []) ⟨hx, hb, hml, hown, hts⟩ (c_X4_shift l dC dI cs b (m_gN N (uf F 5 (upd (F 5) r (F 14 0))) q) (m_gF N (uf F 5 (upd (F 5) r (F 14 0))) q) H.size hB (by first | omega | assumption)) (cwV 0 hts gX4_commit_X4_shift rfl rfl rfl (by decide +kernel) ⟨Nat.le_of_ble_eq_true rfl, Nat.le_of_ble_eq_true rfl⟩) (wr_preV (q := (RX4, TX4, 29)) hP hK hD 0 rfl rfl) rfl rfl hl.1 rfl (lv_room (Nat.le_of_ble_eq_true rfl)) dX4_commit_92 ⟨Nat.zero_le _, Nat.zero_le _⟩) hS hD hA rfl (fun H locs hP hD hS => ?_)
              have hP : va_P (dC, dI) vwCl (wM cs b (un (un (m_gN N (uf F 5 (upd (F 5) r (F 14 0))) q) 10 (((m_gN N (uf F 5 (upd (F 5) r (F 14 0))) q) 10) - 1)) 11 ((((m_gN N (uf F 5 (upd (F 5) r (F 14 0))) q) 11) + 1) % ((m_gN N (uf F 5 (upd (F 5) r (F 14 0))) q) 3))) (m_sh (m_gF N (uf F 5 (upd (F 5) r (F 14 0))) q) ((((m_gN N (uf F 5 (upd (F 5) r (F 14 0))) q) 10) - 1)))) H := hP
              have hD : va_D A (wM cs b (un (un (m_gN N (uf F 5 (upd (F 5) r (F 14 0))) q) 10 (((m_gN N (uf F 5 (upd (F 5) r (F 14 0))) q) 10) - 1)) 11 ((((m_gN N (uf F 5 (upd (F 5) r (F 14 0))) q) 11) + 1) % ((m_gN N (uf F 5 (upd (F 5) r (F 14 0))) q) 3))) (m_sh (m_gF N (uf F 5 (upd (F 5) r (F 14 0))) q) ((((m_gN N (uf F 5 (upd (F 5) r (F 14 0))) q) 10) - 1)))) := hD
              refine lv_aload_n hx hb dX4_commit_95 rfl (lv_at hl 1 rfl) ?_
              refine lv_dup hx hb dX4_commit_96 rfl ?_
              refine va_get (D := (dC, dI)) (ci := 5) (v := .int (nI ((m_gN N (uf F 5 (upd (F 5) r (F 14 0))) q) 25))) (C := RX4) (T := TX4) (N := 29) hx hb hts hinX4 hown hK hP 0 rfl rfl 25 (by decide) (hts (.fieldLink RX4 127 "RenameRowsModel" "done" "I") (by decide +kernel)) (fun _ h9 => h9) rfl dX4_commit_97 ?_
              refine lv_iconst (v := nI 1) hx hb dX4_commit_100 (by decide) ?_
              refine lv_iadd hx hb dX4_commit_101 ?_
              refine tp_eq (nI_add ((m_gN N (uf F 5 (upd (F 5) r (F 14 0))) q) 25) 1) ?_
              refine va_put (D := (dC, dI)) (ci := 5) (v := .int (nI (((m_gN N (uf F 5 (upd (F 5) r (F 14 0))) q) 25) + 1))) (ty := .int) (C := RX4) (T := TX4) (N := 29) hx hb hts hinX4 tyX4 tyX4_ok nmX4 hown hK hP hD hS 0 rfl rfl 25 (by decide) (hts (.fieldLink RX4 127 "RenameRowsModel" "done" "I") (by decide +kernel)) (fun _ h9 => h9) rfl (by decide +kernel) rfl rfl (Nat.le_of_ble_eq_true rfl) dX4_commit_102 (fun H locs hP hD hS => ?_)
              have hP : va_P (dC, dI) vwCl (wM cs b (un (un (un (m_gN N (uf F 5 (upd (F 5) r (F 14 0))) q) 10 (((m_gN N (uf F 5 (upd (F 5) r (F 14 0))) q) 10) - 1)) 11 ((((m_gN N (uf F 5 (upd (F 5) r (F 14 0))) q) 11) + 1) % ((m_gN N (uf F 5 (upd (F 5) r (F 14 0))) q) 3))) 25 (((m_gN N (uf F 5 (upd (F 5) r (F 14 0))) q) 25) + 1)) (m_sh (m_gF N (uf F 5 (upd (F 5) r (F 14 0))) q) ((((m_gN N (uf F 5 (upd (F 5) r (F 14 0))) q) 10) - 1)))) H := hP
              have hD : va_D A (wM cs b (un (un (un (m_gN N (uf F 5 (upd (F 5) r (F 14 0))) q) 10 (((m_gN N (uf F 5 (upd (F 5) r (F 14 0))) q) 10) - 1)) 11 ((((m_gN N (uf F 5 (upd (F 5) r (F 14 0))) q) 11) + 1) % ((m_gN N (uf F 5 (upd (F 5) r (F 14 0))) q) 3))) 25 (((m_gN N (uf F 5 (upd (F 5) r (F 14 0))) q) 25) + 1)) (m_sh (m_gF N (uf F 5 (upd (F 5) r (F 14 0))) q) ((((m_gN N (uf F 5 (upd (F 5) r (F 14 0))) q) 10) - 1)))) := hD
              refine lv_iinc (v := nI (v + 1)) (lv' := [(2, .int (nI (v + 1))), (0, .ref (b 0)), (1, .int (nI ka))]) hx hb dX4_commit_105 hl (k := 0) rfl (nI_succ v).symm (by decide) rfl (fun ls hl => ?_)
              refine lv_goto (tgt := 22) hx hb dX4_commit_108 (by decide) ?_
              have e8 : m_stN N F = (un (un (un (m_gN N (uf F 5 (upd (F 5) r (F 14 0))) q) 10 (((m_gN N (uf F 5 (upd (F 5) r (F 14 0))) q) 10) - 1)) 11 ((((m_gN N (uf F 5 (upd (F 5) r (F 14 0))) q) 11) + 1) % ((m_gN N (uf F 5 (upd (F 5) r (F 14 0))) q) 3))) 25 (((m_gN N (uf F 5 (upd (F 5) r (F 14 0))) q) 25) + 1)) := by simp [m_stN, m_shN, m_cgN, m_s5, e1, e3, nI_m1 (show r < 2 ^ 31 by omega), cl32_nI (show r < 2 ^ 31 by omega), cl32_nI (show q < 2 ^ 31 by omega)]
              have e9 : m_stF N F = (m_sh (m_gF N (uf F 5 (upd (F 5) r (F 14 0))) q) ((((m_gN N (uf F 5 (upd (F 5) r (F 14 0))) q) 10) - 1))) := by simp [m_stF, m_cgF, m_cgN, m_s5, e1, e3, nI_m1 (show r < 2 ^ 31 by omega), cl32_nI (show r < 2 ^ 31 by omega), cl32_nI (show q < 2 ^ 31 by omega)]
              have hP : va_P (dC, dI) vwCl (wM cs b (m_stN N F) (m_stF N F)) H := by
                rw [e8, e9]; exact hP
              have hD : va_D A (wM cs b (m_stN N F) (m_stF N F)) := hD.same rfl
              exact ih (v + 1) (m_stN N F) (m_stF N F) (by rw [m_stN_10]; omega) (by omega) hB9 hS9 (by rw [hs, m_cm, if_pos]; simp [m_cc, i32_ge c_8]; refine ⟨by omega, ?_⟩; first | exact c_7 | assumption) H locs hP hD hS ls (lv_sub hl [0, 1, 2] rfl)
  exact key (g 10) 0 (un g 0 0) h rfl (by omega) hB hsafe rfl _ _ hP hD hS ls (lv_sub hl [0, 1, 2] rfl)
