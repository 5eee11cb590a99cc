/-! the law's cases without a helper, its loop -/
set_option maxHeartbeats 4000000 in
set_option maxRecDepth 100000 in
theorem cs_branch {p : Program} {l : Launch} {e : Env} {s : State} {m : MethodId} {below : List Frame} {meth : Method} {c : Code} {H : Heap} {locs : List Loc} {Q : State → Prop} {ls : Array Slot} {dC : Nat → ClassId} {dI : Nat → Nat → Nat} {cs : ClassId × ClassId} {c3 : ClassId} {a bb : Nat → Nat} {o b L : Nat} {xs : Nat → Int32} (C0 : lwX l p s m meth c (dC, dI) cs c3 b L xs) {k0 : Nat} (hi : 3 + 4 * k0 + 4 ≤ L) (S0 : lwS s (dC, dI) cs c3 a bb o k0 H locs) (hl : lv_has ls 7 [(0, .ref b), (1, .ref (a 0)), (2, .ref (bb 0)), (3, .ref o), (4, .int (nI (3 + 4 * k0)))]) (kk : ∀ (H : Heap) (locs : List Loc) (ls : Array Slot), lwS s (dC, dI) cs c3 a bb o (k0 + 1) H locs → lv_has ls 7 [(0, .ref b), (1, .ref (a 0)), (2, .ref (bb 0)), (3, .ref o), (4, .int (nI (3 + 4 * k0)))] → W p l e room_1 s m #[Value.ref b] below meth c H locs (50 + k0 + 1) (2000 + 6 * k0 + 6) Q (F0 m 1030 ls [])) : W p l e room_1 s m #[Value.ref b] below meth c H locs (50 + k0) (2000 + 6 * k0) Q (F0 m 588 ls []) := by
  obtain ⟨hlt, hx, hb, hml, hown, hts, hX, hbl, hK, hT, hN, hL⟩ := C0
  obtain ⟨n, f, g, h, z, r, hP, hD, hS⟩ := S0
  have hA : ∀ q, s.heap.size ≤ q → newA s q := fun _ q => q
  have hbA : ¬ newA s b := fun q => absurd hbl (Nat.not_lt.mpr q)
  have hKc : va_K (dC, dI) vwCl (tyl cs) s := hK.sub [0, 1] rfl
  have hPx : va_P (dC, dI) vwCl (wX cs a n f) H := blkP (w0 := []) (wr := ((o, .inl (c3, 1, .inr (.inl z))) :: wM cs bb g h)) hP
  have hDx : va_D (newA s) (wX cs a n f) := blkD (w0 := []) (wr := ((o, .inl (c3, 1, .inr (.inl z))) :: wM cs bb g h)) hD
  refine lv_aload_n hx hb dL_law_588 rfl (lv_at hl 1 rfl) ?_
  refine blk_call (w0 := []) (wc := wX cs a n f) (wr := ((o, .inl (c3, 1, .inr (.inl z))) :: wM cs bb g h)) (w1 := wX cs a (x_loN n f) (x_loF n f (n 10 + n 9))) (ov := some (.int (x_lo n f))) (rest := []) (va_runV (As := []) (rest := []) ⟨hx, hb, hml, hown, hts⟩ (c_X3_branch l dC dI cs a n f H.size (RA_x r.1.1)) (cwV 0 hts gL_law_X3_branch rfl rfl rfl (by decide +kernel) ⟨Nat.le_of_ble_eq_true rfl, Nat.le_of_ble_eq_true rfl⟩) (wr_preV (q := (RX3, TX3, 9)) hPx hKc hDx 0 rfl rfl) rfl rfl hl.1 rfl (lv_room (Nat.le_of_ble_eq_true rfl)) dL_law_589 ⟨by show 50 + k0 + 0 ≤ 601024; omega, by show 2000 + 6 * k0 + 0 ≤ 7293000; omega⟩) hS hP hD hA rfl (fun H locs hP hD hS => ?_)
  refine W.eq (g2 := F0 m 592 ls (.int (x_lo n f) :: [])) rfl ?_
  have hP : va_P (dC, dI) vwCl (lwWd cs c3 a bb o z (x_loN n f) (x_loF n f (n 10 + n 9)) g h) H := hP
  have hD : va_D (newA s) (lwWd cs c3 a bb o z (x_loN n f) (x_loF n f (n 10 + n 9)) g h) := hD
  rw [lw_split] at hP hD
  have hPm : va_P (dC, dI) vwCl (wM cs bb g h) H := blkP (w0 := wX cs a (x_loN n f) (x_loF n f (n 10 + n 9)) ++ [(o, .inl (c3, 1, .inr (.inl z)))]) (wr := []) hP
  have hDm : va_D (newA s) (wM cs bb g h) := blkD (w0 := wX cs a (x_loN n f) (x_loF n f (n 10 + n 9)) ++ [(o, .inl (c3, 1, .inr (.inl z)))]) (wr := []) hD
  refine lv_aload_n hx hb dL_law_592 rfl (lv_at hl 2 rfl) ?_
  refine blk_call (w0 := wX cs a (x_loN n f) (x_loF n f (n 10 + n 9)) ++ [(o, .inl (c3, 1, .inr (.inl z)))]) (wc := wM cs bb g h) (wr := []) (w1 := wM cs bb (m_loN g h) (m_loF g h)) (ov := some (.int (m_lo h))) (rest := [.int (x_lo n f)]) (va_runV (As := []) (rest := [.int (x_lo n f)]) ⟨hx, hb, hml, hown, hts⟩ (c_X4_branch_v l dC dI cs bb g h H.size (RA_m r.1.1)) (cwV 0 hts gL_law_X4_branch rfl rfl rfl (by decide +kernel) ⟨Nat.le_of_ble_eq_true rfl, Nat.le_of_ble_eq_true rfl⟩) (wr_preV (q := (RX4, TX4, 29)) hPm hKc hDm 0 rfl rfl) rfl rfl hl.1 rfl (lv_room (Nat.le_of_ble_eq_true rfl)) dL_law_593 ⟨by show 50 + k0 + 0 ≤ 601024; omega, by show 2000 + 6 * k0 + 0 ≤ 7293000; omega⟩) hS hP hD hA rfl (fun H locs hP hD hS => ?_)
  refine W.eq (g2 := F0 m 596 ls (.int (m_lo h) :: .int (x_lo n f) :: [])) rfl ?_
  refine lv_icmp_eq (tgt := 1030) hx hb dL_law_596 (by decide) (fun _ => ?_) (fun q => absurd (lo_eq r) q)
  refine W.widen (k := 50 + k0 + 1) (n := 2000 + 6 * k0 + 6) (by omega) (by omega) ?_
  exact kk H locs ls ⟨_, _, _, _, z, Rel_branch r (by have := r.1.1; unfold RA at this; omega), by rw [lw_split]; exact hP, by rw [lw_split]; exact hD, hS⟩ hl
set_option maxHeartbeats 4000000 in
set_option maxRecDepth 100000 in
theorem cs_count1 {p : Program} {l : Launch} {e : Env} {s : State} {m : MethodId} {below : List Frame} {meth : Method} {c : Code} {H : Heap} {locs : List Loc} {Q : State → Prop} {ls : Array Slot} {dC : Nat → ClassId} {dI : Nat → Nat → Nat} {cs : ClassId × ClassId} {c3 : ClassId} {a bb : Nat → Nat} {o b L : Nat} {xs : Nat → Int32} (C0 : lwX l p s m meth c (dC, dI) cs c3 b L xs) {k0 : Nat} (hi : 3 + 4 * k0 + 4 ≤ L) (S0 : lwS s (dC, dI) cs c3 a bb o k0 H locs) (hl : lv_has ls 7 [(0, .ref b), (1, .ref (a 0)), (2, .ref (bb 0)), (3, .ref o), (4, .int (nI (3 + 4 * k0)))]) {kc : Nat} (hkc : kc < 11) (ey : xs (3 + 4 * k0 + 1) = nI kc) (kk : ∀ (H : Heap) (locs : List Loc) (ls : Array Slot), lwS s (dC, dI) cs c3 a bb o (k0 + 1) H locs → lv_has ls 7 [(0, .ref b), (1, .ref (a 0)), (2, .ref (bb 0)), (3, .ref o), (4, .int (nI (3 + 4 * k0)))] → W p l e room_1 s m #[Value.ref b] below meth c H locs (50 + k0 + 1) (2000 + 6 * k0 + 6) Q (F0 m 1030 ls [])) : W p l e room_1 s m #[Value.ref b] below meth c H locs (50 + k0) (2000 + 6 * k0) Q (F0 m 1005 ls []) := by
  obtain ⟨hlt, hx, hb, hml, hown, hts, hX, hbl, hK, hT, hN, hL⟩ := C0
  obtain ⟨n, f, g, h, z, r, hP, hD, hS⟩ := S0
  have hA : ∀ q, s.heap.size ≤ q → newA s q := fun _ q => q
  have hbA : ¬ newA s b := fun q => absurd hbl (Nat.not_lt.mpr q)
  have hKc : va_K (dC, dI) vwCl (tyl cs) s := hK.sub [0, 1] rfl
  have hPx : va_P (dC, dI) vwCl (wX cs a n f) H := blkP (w0 := []) (wr := ((o, .inl (c3, 1, .inr (.inl z))) :: wM cs bb g h)) hP
  refine lv_aload_n hx hb dL_law_1005 rfl (lv_at hl 1 rfl) ?_
  refine lv_aload_n hx hb dL_law_1006 rfl (lv_at hl 0 rfl) ?_
  refine lv_iload hx hb dL_law_1007 (lv_at hl 4 rfl) ?_
  refine lv_iconst (v := nI 1) hx hb dL_law_1009 (by decide) ?_
  refine lv_iadd hx hb dL_law_1010 ?_
  refine tp_eq (nI_add (3 + 4 * k0) 1) ?_
  refine la_sld hx hb hX hbl hbA hS (j := 3 + 4 * k0 + 1) (by omega) hL dL_law_1011 ?_
  refine tp_eq ey ?_
  refine W.callR (W.runV (As := [.int (nI kc)]) (rest := []) ⟨hx, hb, hml, hown, hts⟩ (c_X3_count l dC dI cs a n f kc (RA_x r.1.1) hkc) (cwV 1 hts gL_law_X3_count rfl rfl rfl (by decide +kernel) ⟨Nat.le_of_ble_eq_true rfl, Nat.le_of_ble_eq_true rfl⟩) (rd_preV (q := (RX3, TX3, 9)) hPx hKc 0 rfl rfl) rfl rfl hl.1 rfl (lv_room (Nat.le_of_ble_eq_true rfl)) dL_law_1012 ⟨Nat.le_trans (Nat.le_of_eq (Nat.add_zero _)) (by show 50 + k0 ≤ 601024; omega), Nat.le_trans (Nat.le_of_eq (Nat.add_zero _)) (by show 2000 + 6 * k0 ≤ 7293000; omega)⟩) ?_
  refine W.eq (g2 := F0 m 1015 ls (.int (x_ct n kc) :: [])) rfl ?_
  rw [lw_split] at hP hD
  have hPm : va_P (dC, dI) vwCl (wM cs bb g h) H := blkP (w0 := wX cs a n f ++ [(o, .inl (c3, 1, .inr (.inl z)))]) (wr := []) hP
  have hDm : va_D (newA s) (wM cs bb g h) := blkD (w0 := wX cs a n f ++ [(o, .inl (c3, 1, .inr (.inl z)))]) (wr := []) hD
  refine lv_aload_n hx hb dL_law_1015 rfl (lv_at hl 2 rfl) ?_
  refine lv_aload_n hx hb dL_law_1016 rfl (lv_at hl 0 rfl) ?_
  refine lv_iload hx hb dL_law_1017 (lv_at hl 4 rfl) ?_
  refine lv_iconst (v := nI 1) hx hb dL_law_1019 (by decide) ?_
  refine lv_iadd hx hb dL_law_1020 ?_
  refine tp_eq (nI_add (3 + 4 * k0) 1) ?_
  refine la_sld hx hb hX hbl hbA hS (j := 3 + 4 * k0 + 1) (by omega) hL dL_law_1021 ?_
  refine tp_eq ey ?_
  refine blk_call (w0 := wX cs a n f ++ [(o, .inl (c3, 1, .inr (.inl z)))]) (wc := wM cs bb g h) (wr := []) (w1 := wM cs bb (un g 0 0) h) (ov := some (.int (m_ct g kc))) (rest := [.int (x_ct n kc)]) (va_runV (As := [.int (nI kc)]) (rest := [.int (x_ct n kc)]) ⟨hx, hb, hml, hown, hts⟩ (c_X4_count_v l dC dI cs bb g h H.size kc (RA_m r.1.1) hkc) (cwV 1 hts gL_law_X4_count rfl rfl rfl (by decide +kernel) ⟨Nat.le_of_ble_eq_true rfl, Nat.le_of_ble_eq_true rfl⟩) (wr_preV (q := (RX4, TX4, 29)) hPm hKc hDm 0 rfl rfl) rfl rfl hl.1 rfl (lv_room (Nat.le_of_ble_eq_true rfl)) dL_law_1022 ⟨by show 50 + k0 + 0 ≤ 601024; omega, by show 2000 + 6 * k0 + 0 ≤ 7293000; omega⟩) hS hP hD hA rfl (fun H locs hP hD hS => ?_)
  refine W.eq (g2 := F0 m 1025 ls (.int (m_ct g kc) :: .int (x_ct n kc) :: [])) rfl ?_
  refine lv_icmp_eq (tgt := 1030) hx hb dL_law_1025 (by decide) (fun _ => ?_) (fun q => absurd (ct_eq r kc) q)
  refine W.widen (k := 50 + k0 + 1) (n := 2000 + 6 * k0 + 6) (by omega) (by omega) ?_
  exact kk H locs ls ⟨_, _, _, _, z, Rel_thr (k := 0) r (by decide) (by have := r.1.1; unfold RA at this; omega), by rw [lw_split]; exact hP, by rw [lw_split]; exact hD, hS⟩ hl
set_option maxHeartbeats 4000000 in
set_option maxRecDepth 100000 in
theorem cs_count2 {p : Program} {l : Launch} {e : Env} {s : State} {m : MethodId} {below : List Frame} {meth : Method} {c : Code} {H : Heap} {locs : List Loc} {Q : State → Prop} {ls : Array Slot} {dC : Nat → ClassId} {dI : Nat → Nat → Nat} {cs : ClassId × ClassId} {c3 : ClassId} {a bb : Nat → Nat} {o b L : Nat} {xs : Nat → Int32} (C0 : lwX l p s m meth c (dC, dI) cs c3 b L xs) {k0 : Nat} (hi : 3 + 4 * k0 + 4 ≤ L) (S0 : lwS s (dC, dI) cs c3 a bb o k0 H locs) (hl : lv_has ls 7 [(0, .ref b), (1, .ref (a 0)), (2, .ref (bb 0)), (3, .ref o), (4, .int (nI (3 + 4 * k0)))]) (hy : (xs (3 + 4 * k0 + 1)).toInt < 0 ∨ 10 < (xs (3 + 4 * k0 + 1)).toInt) (kk : ∀ (H : Heap) (locs : List Loc) (ls : Array Slot), lwS s (dC, dI) cs c3 a bb o (k0 + 1) H locs → lv_has ls 7 [(0, .ref b), (1, .ref (a 0)), (2, .ref (bb 0)), (3, .ref o), (4, .int (nI (3 + 4 * k0)))] → W p l e room_1 s m #[Value.ref b] below meth c H locs (50 + k0 + 1) (2000 + 6 * k0 + 6) Q (F0 m 1030 ls [])) : W p l e room_1 s m #[Value.ref b] below meth c H locs (50 + k0) (2000 + 6 * k0) Q (F0 m 1005 ls []) := by
  obtain ⟨hlt, hx, hb, hml, hown, hts, hX, hbl, hK, hT, hN, hL⟩ := C0
  obtain ⟨n, f, g, h, z, r, hP, hD, hS⟩ := S0
  have hA : ∀ q, s.heap.size ≤ q → newA s q := fun _ q => q
  have hbA : ¬ newA s b := fun q => absurd hbl (Nat.not_lt.mpr q)
  have hKc : va_K (dC, dI) vwCl (tyl cs) s := hK.sub [0, 1] rfl
  have hPx : va_P (dC, dI) vwCl (wX cs a n f) H := blkP (w0 := []) (wr := ((o, .inl (c3, 1, .inr (.inl z))) :: wM cs bb g h)) hP
  refine lv_aload_n hx hb dL_law_1005 rfl (lv_at hl 1 rfl) ?_
  refine lv_aload_n hx hb dL_law_1006 rfl (lv_at hl 0 rfl) ?_
  refine lv_iload hx hb dL_law_1007 (lv_at hl 4 rfl) ?_
  refine lv_iconst (v := nI 1) hx hb dL_law_1009 (by decide) ?_
  refine lv_iadd hx hb dL_law_1010 ?_
  refine tp_eq (nI_add (3 + 4 * k0) 1) ?_
  refine la_sld hx hb hX hbl hbA hS (j := 3 + 4 * k0 + 1) (by omega) hL dL_law_1011 ?_
  refine tp_eq rfl ?_
  refine W.callR (W.runV (As := [.int (xs (3 + 4 * k0 + 1))]) (rest := []) ⟨hx, hb, hml, hown, hts⟩ (c_X3_count_x l dC dI cs a n f _ hy (RA_x r.1.1)) (cwV 1 hts gL_law_X3_count rfl rfl rfl (by decide +kernel) ⟨Nat.le_of_ble_eq_true rfl, Nat.le_of_ble_eq_true rfl⟩) (rd_preV (q := (RX3, TX3, 9)) hPx hKc 0 rfl rfl) rfl rfl hl.1 rfl (lv_room (Nat.le_of_ble_eq_true rfl)) dL_law_1012 ⟨Nat.le_trans (Nat.le_of_eq (Nat.add_zero _)) (by show 50 + k0 ≤ 601024; omega), Nat.le_trans (Nat.le_of_eq (Nat.add_zero _)) (by show 2000 + 6 * k0 ≤ 7293000; omega)⟩) ?_
  refine W.eq (g2 := F0 m 1015 ls (.int (-1) :: [])) rfl ?_
  rw [lw_split] at hP hD
  have hPm : va_P (dC, dI) vwCl (wM cs bb g h) H := blkP (w0 := wX cs a n f ++ [(o, .inl (c3, 1, .inr (.inl z)))]) (wr := []) hP
  have hDm : va_D (newA s) (wM cs bb g h) := blkD (w0 := wX cs a n f ++ [(o, .inl (c3, 1, .inr (.inl z)))]) (wr := []) hD
  refine lv_aload_n hx hb dL_law_1015 rfl (lv_at hl 2 rfl) ?_
  refine lv_aload_n hx hb dL_law_1016 rfl (lv_at hl 0 rfl) ?_
  refine lv_iload hx hb dL_law_1017 (lv_at hl 4 rfl) ?_
  refine lv_iconst (v := nI 1) hx hb dL_law_1019 (by decide) ?_
  refine lv_iadd hx hb dL_law_1020 ?_
  refine tp_eq (nI_add (3 + 4 * k0) 1) ?_
  refine la_sld hx hb hX hbl hbA hS (j := 3 + 4 * k0 + 1) (by omega) hL dL_law_1021 ?_
  refine tp_eq rfl ?_
  refine blk_call (w0 := wX cs a n f ++ [(o, .inl (c3, 1, .inr (.inl z)))]) (wc := wM cs bb g h) (wr := []) (w1 := wM cs bb (un g 0 0) h) (ov := some (.int (-1))) (rest := [.int (-1)]) (va_runV (As := [.int (xs (3 + 4 * k0 + 1))]) (rest := [.int (-1)]) ⟨hx, hb, hml, hown, hts⟩ (c_X4_count_x l dC dI cs bb g h H.size _ hy (RA_m r.1.1)) (cwV 1 hts gL_law_X4_count rfl rfl rfl (by decide +kernel) ⟨Nat.le_of_ble_eq_true rfl, Nat.le_of_ble_eq_true rfl⟩) (wr_preV (q := (RX4, TX4, 29)) hPm hKc hDm 0 rfl rfl) rfl rfl hl.1 rfl (lv_room (Nat.le_of_ble_eq_true rfl)) dL_law_1022 ⟨by show 50 + k0 + 0 ≤ 601024; omega, by show 2000 + 6 * k0 + 0 ≤ 7293000; omega⟩) hS hP hD hA rfl (fun H locs hP hD hS => ?_)
  refine W.eq (g2 := F0 m 1025 ls (.int (-1) :: .int (-1) :: [])) rfl ?_
  refine lv_icmp_eq (tgt := 1030) hx hb dL_law_1025 (by decide) (fun _ => ?_) (fun q => absurd rfl q)
  refine W.widen (k := 50 + k0 + 1) (n := 2000 + 6 * k0 + 6) (by omega) (by omega) ?_
  exact kk H locs ls ⟨_, _, _, _, z, Rel_thr (k := 0) r (by decide) (by have := r.1.1; unfold RA at this; omega), by rw [lw_split]; exact hP, by rw [lw_split]; exact hD, hS⟩ hl
theorem cs_count {p : Program} {l : Launch} {e : Env} {s : State} {m : MethodId} {below : List Frame} {meth : Method} {c : Code} {H : Heap} {locs : List Loc} {Q : State → Prop} {ls : Array Slot} {dC : Nat → ClassId} {dI : Nat → Nat → Nat} {cs : ClassId × ClassId} {c3 : ClassId} {a bb : Nat → Nat} {o b L : Nat} {xs : Nat → Int32} (C0 : lwX l p s m meth c (dC, dI) cs c3 b L xs) {k0 : Nat} (hi : 3 + 4 * k0 + 4 ≤ L) (S0 : lwS s (dC, dI) cs c3 a bb o k0 H locs) (hl : lv_has ls 7 [(0, .ref b), (1, .ref (a 0)), (2, .ref (bb 0)), (3, .ref o), (4, .int (nI (3 + 4 * k0)))]) (kk : ∀ (H : Heap) (locs : List Loc) (ls : Array Slot), lwS s (dC, dI) cs c3 a bb o (k0 + 1) H locs → lv_has ls 7 [(0, .ref b), (1, .ref (a 0)), (2, .ref (bb 0)), (3, .ref o), (4, .int (nI (3 + 4 * k0)))] → W p l e room_1 s m #[Value.ref b] below meth c H locs (50 + k0 + 1) (2000 + 6 * k0 + 6) Q (F0 m 1030 ls [])) : W p l e room_1 s m #[Value.ref b] below meth c H locs (50 + k0) (2000 + 6 * k0) Q (F0 m 1005 ls []) := by
  by_cases hv : inB (xs (3 + 4 * k0 + 1)) 11 = false
  · refine cs_count2 C0 hi S0 hl ?_ kk
    rcases inB_f hv with q | q
    · rw [Int32.lt_iff_toInt_lt] at q
      have : (0 : Int32).toInt = 0 := by decide
      omega
    · rw [Int32.lt_iff_toInt_lt] at q
      have : (nI 11).toInt = 11 := by decide
      omega
  · obtain ⟨kc, hkc, ey⟩ := inB_t (b_nf hv) (by decide)
    exact cs_count1 C0 hi S0 hl hkc ey kk
