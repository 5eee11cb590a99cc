/-! the law's helpers -/
set_option maxHeartbeats 4000000 in
set_option maxRecDepth 100000 in
theorem hl_dispatch_w (l : Launch) (dC : Nat → ClassId) (dI : Nat → Nat → Nat) (cs : ClassId × ClassId) (c3 : ClassId) (a n : Nat → Nat) (f : Nat → Nat → Int32) (sz o : Nat) (z : Nat → Int64) (wr : va_W) (y0 y1 y2 : Int32) (n' : Nat → Nat) (f' : Nat → Nat → Int32) (r : Int32) (rm : Room) (hrc : rm.cells = 0) (hrs : rm.slots = 0) (hrf : rm.frames ≤ 5) (hrl : rm.locals ≤ 108) (hM : Met l yX3_dispatch wsX3_dispatch rm (wrPc (dC, dI) vwCl (wX cs a n f) (tyl cs) sz [.ref (a 0), .int y0, .int y1, .int y2]) (wrQ (dC, dI) vwCl (wX cs a n' f') (some (.int r)) (va_A (wX cs a n f) sz)) 0 0 (va_A (wX cs a n f) sz)) : Met l yL_dispatch wsL_dispatch ({ frames := 9, cells := 1, slots := 6, locals := 200 }) (hpPc (dC, dI) vwCl (wX cs a n f ++ ((o, .inl (c3, 1, .inr (.inl z))) :: wr)) (tyl3 cs c3) sz [.ref (a 0), .int y0, .int y1, .int y2, .ref o]) (wrQ (dC, dI) vwCl (wX cs a n' f' ++ ((o, .inl (c3, 1, .inr (.inl (vp_updL z (nI 0).toNatClampNeg r.toInt64)))) :: wr)) (some (.int (nI 0))) (va_A (wX cs a n f ++ ((o, .inl (c3, 1, .inr (.inl z))) :: wr)) sz)) 1 6 (va_A (wX cs a n f ++ ((o, .inl (c3, 1, .inr (.inl z))) :: wr)) sz) := by
  refine h_of (cc := cL_dispatch) (maxL := 6) (ret := (some .int)) (own := RL) (by decide) rfl rfl (Nat.le_of_ble_eq_true rfl) ?_
  intro p e s m below meth c A hsz hAe hx hb hr hml hts hown hlocks htab hP hK hD hA hS hT hN ls hl
  have hl : lv_has ls 6 [(0, .ref (a 0)), (1, .int y0), (2, .int y1), (3, .int y2), (4, .ref o)] := hl
  have hPc : va_P (dC, dI) vwCl (wX cs a n f) s.heap := blkP (w0 := []) (wr := ((o, .inl (c3, 1, .inr (.inl z))) :: wr)) hP
  have hDc : va_D A (wX cs a n f) := blkD (w0 := []) (wr := ((o, .inl (c3, 1, .inr (.inl z))) :: wr)) hD
  have hKc : va_K (dC, dI) vwCl (tyl cs) s := hK.sub [0, 1] rfl
  obtain rfl : sz = s.heap.size := hsz.symm
  refine lv_aload hx hb dL_dispatch_0 (lv_at hl 4 rfl) ?_
  refine lv_iconst (v := nI 0) hx hb dL_dispatch_2 (by decide) ?_
  refine lv_aload_n hx hb dL_dispatch_3 rfl (lv_at hl 0 rfl) ?_
  refine lv_iload_n hx hb dL_dispatch_4 rfl (lv_at hl 1 rfl) ?_
  refine lv_iload_n hx hb dL_dispatch_5 rfl (lv_at hl 2 rfl) ?_
  refine lv_iload_n hx hb dL_dispatch_6 rfl (lv_at hl 3 rfl) ?_
  refine blk_call (w0 := []) (wc := wX cs a n f) (wr := ((o, .inl (c3, 1, .inr (.inl z))) :: wr)) (w1 := wX cs a n' f') (ov := some (.int r)) (rest := [.int (nI 0), .ref o]) (va_runV (As := [.int y0, .int y1, .int y2]) (rest := [.int (nI 0), .ref o]) ⟨hx, hb, hml, hown, hts⟩ hM (cwV 3 hts gL_dispatch_X3_dispatch rfl hrc hrs (by decide +kernel) ⟨by show rm.frames + 1 ≤ 9; omega, by show _ + rm.locals ≤ 200; omega⟩) (wr_preV (q := (RX3, TX3, 9)) hPc hKc hDc 0 rfl rfl) rfl rfl hl.1 rfl (lv_room (Nat.le_of_ble_eq_true rfl)) dL_dispatch_7 ⟨Nat.le_of_ble_eq_true rfl, Nat.le_of_ble_eq_true rfl⟩) hS hP hD hA rfl (fun H locs hP hD hS => ?_)
  have hP : va_P (dC, dI) vwCl (wX cs a n' f' ++ ((o, .inl (c3, 1, .inr (.inl z))) :: wr)) H := hP
  have hD : va_D A (wX cs a n' f' ++ ((o, .inl (c3, 1, .inr (.inl z))) :: wr)) := hD
  refine W.eq (g2 := F0 m 10 ls (.int r :: [.int (nI 0), .ref o])) rfl ?_
  refine lv_i2l hx hb dL_dispatch_10 rfl ?_
  refine va_last hx hb hK hP hD hS 19 2 rfl rfl (vp_in_nI (by decide) (by decide)) dL_dispatch_11 (fun H locs hP hD hS => ?_)
  have hP : va_P (dC, dI) vwCl (wX cs a n' f' ++ ((o, .inl (c3, 1, .inr (.inl (vp_updL z (nI 0).toNatClampNeg r.toInt64)))) :: wr)) H := hP
  refine lv_goto (tgt := 19) hx hb dL_dispatch_12 (by decide) ?_
  refine lv_iconst (v := nI 0) hx hb dL_dispatch_19 (by decide) ?_
  refine W.widen (k := 1) (n := 6) (Nat.zero_le _) (Nat.zero_le _) ?_
  exact h_iret hx hb hr hlocks hP hS dL_dispatch_20
set_option maxHeartbeats 4000000 in
set_option maxRecDepth 100000 in
theorem hl_dispatch_t1 (l : Launch) (dC : Nat → ClassId) (dI : Nat → Nat → Nat) (cs : ClassId × ClassId) (c3 : ClassId) (a n : Nat → Nat) (f : Nat → Nat → Int32) (sz o : Nat) (z : Nat → Int64) (wr : va_W) (y0 y1 y2 : Int32) (rm : Room) (hrc : rm.cells = 1) (hrs : rm.slots = 6) (hrf : rm.frames ≤ 7) (hrl : rm.locals ≤ 108) (hM : vx_Met l yX3_dispatch wsX3_dispatch rm (thPc (dC, dI) vwCl (wX cs a n f) (tyl cs) [.ref (a 0), .int y0, .int y1, .int y2]) noQ (thX eA) 1 6 (fun _ => False)) : Met l yL_dispatch wsL_dispatch ({ frames := 9, cells := 1, slots := 6, locals := 200 }) (hpPc (dC, dI) vwCl (wX cs a n f ++ ((o, .inl (c3, 1, .inr (.inl z))) :: wr)) (tyl3 cs c3) sz [.ref (a 0), .int y0, .int y1, .int y2, .ref o]) (wrQ (dC, dI) vwCl (wX cs a n f ++ ((o, .inl (c3, 1, .inr (.inl z))) :: wr)) (some (.int (nI 1))) (va_A (wX cs a n f ++ ((o, .inl (c3, 1, .inr (.inl z))) :: wr)) sz)) 1 6 (va_A (wX cs a n f ++ ((o, .inl (c3, 1, .inr (.inl z))) :: wr)) sz) := by
  refine h_of (cc := cL_dispatch) (maxL := 6) (ret := (some .int)) (own := RL) (by decide) rfl rfl (Nat.le_of_ble_eq_true rfl) ?_
  intro p e s m below meth c A hsz hAe hx hb hr hml hts hown hlocks htab hP hK hD hA hS hT hN ls hl
  have hl : lv_has ls 6 [(0, .ref (a 0)), (1, .int y0), (2, .int y1), (3, .int y2), (4, .ref o)] := hl
  have hPc : va_P (dC, dI) vwCl (wX cs a n f) s.heap := blkP (w0 := []) (wr := ((o, .inl (c3, 1, .inr (.inl z))) :: wr)) hP
  have hDc : va_D A (wX cs a n f) := blkD (w0 := []) (wr := ((o, .inl (c3, 1, .inr (.inl z))) :: wr)) hD
  have hKc : va_K (dC, dI) vwCl (tyl cs) s := hK.sub [0, 1] rfl
  obtain rfl : sz = s.heap.size := hsz.symm
  refine lv_aload hx hb dL_dispatch_0 (lv_at hl 4 rfl) ?_
  refine lv_iconst (v := nI 0) hx hb dL_dispatch_2 (by decide) ?_
  refine lv_aload_n hx hb dL_dispatch_3 rfl (lv_at hl 0 rfl) ?_
  refine lv_iload_n hx hb dL_dispatch_4 rfl (lv_at hl 1 rfl) ?_
  refine lv_iload_n hx hb dL_dispatch_5 rfl (lv_at hl 2 rfl) ?_
  refine lv_iload_n hx hb dL_dispatch_6 rfl (lv_at hl 3 rfl) ?_
  refine th_call (E0 := eA) (rest := [.int (nI 0), .ref o]) (vx_runV (As := [.int y0, .int y1, .int y2]) (rest := [.int (nI 0), .ref o]) ⟨hx, hb, hml, hown, hts⟩ hM (cwV 3 hts gL_dispatch_X3_dispatch rfl hrc hrs (by decide +kernel) ⟨by show rm.frames + 1 ≤ 9; omega, by show _ + rm.locals ≤ 200; omega⟩) (th_preV (q := (RX3, TX3, 9)) hPc hKc (fun U hU hW => thB_moved hW (fun a9 h9 => by rw [hU]) hT) 0 rfl rfl) rfl rfl hl.1 rfl (lv_room (Nat.le_of_ble_eq_true rfl)) dL_dispatch_7 ⟨Nat.le_of_ble_eq_true rfl, Nat.le_of_ble_eq_true rfl⟩) (fun ce q9 H1 hz9 hk9 hc9 hv9 hcl9 => ?_)
  have hP1 : va_P (dC, dI) vwCl (wX cs a n f ++ ((o, .inl (c3, 1, .inr (.inl z))) :: wr)) H1 := fun k9 q8 hq8 => (hP k9 q8 hq8).kept (hk9 q8.1 (hP k9 q8 hq8).lt)
  have hS1 : va_S A s.heap H1 [] := ⟨hz9, fun q8 h8 _ => hk9 q8 h8, fun _ h8 => nomatch h8⟩
  refine vx_catch (own := RL) (name := eA) (E := eA) hown (tableOf []) ⟨0, 12, 15, 13⟩ (tableOf []) htab (fun z9 h9 => nomatch h9) (by decide) (by decide) (mvW_moved (State.WarmedH.refl s) rfl hN.2.2.2) (mvW_moved (State.WarmedH.refl s) rfl (hT.1 (.castable eA eA) (by decide +kernel))) hc9 hv9 hcl9 ?_
  refine W.eq (g2 := F0 m 15 ls (.ref q9 :: [])) rfl ?_
  refine lv_astore hx hb dL_dispatch_15 (lv_sub hl [] rfl) (Nat.le_of_ble_eq_true rfl) rfl (fun ls hl => ?_)
  refine lv_iconst (v := nI 1) hx hb dL_dispatch_17 (by decide) ?_
  exact h_iret hx hb hr hlocks hP1 hS1 dL_dispatch_18
set_option maxHeartbeats 4000000 in
set_option maxRecDepth 100000 in
theorem hl_move_w (l : Launch) (dC : Nat → ClassId) (dI : Nat → Nat → Nat) (cs : ClassId × ClassId) (c3 : ClassId) (a n : Nat → Nat) (f : Nat → Nat → Int32) (sz o : Nat) (z : Nat → Int64) (wr : va_W) (y0 y1 : Int32) (n' : Nat → Nat) (f' : Nat → Nat → Int32) (r : Int32) (rm : Room) (hrc : rm.cells = 0) (hrs : rm.slots = 0) (hrf : rm.frames ≤ 5) (hrl : rm.locals ≤ 108) (hM : Met l yX3_move wsX3_move rm (wrPc (dC, dI) vwCl (wX cs a n f) (tyl cs) sz [.ref (a 0), .int y0, .int y1]) (wrQ (dC, dI) vwCl (wX cs a n' f') (some (.int r)) (va_A (wX cs a n f) sz)) 0 0 (va_A (wX cs a n f) sz)) : Met l yL_move wsL_move ({ frames := 9, cells := 1, slots := 6, locals := 200 }) (hpPc (dC, dI) vwCl (wX cs a n f ++ ((o, .inl (c3, 1, .inr (.inl z))) :: wr)) (tyl3 cs c3) sz [.ref (a 0), .int y0, .int y1, .ref o]) (wrQ (dC, dI) vwCl (wX cs a n' f' ++ ((o, .inl (c3, 1, .inr (.inl (vp_updL z (nI 0).toNatClampNeg r.toInt64)))) :: wr)) (some (.int (nI 0))) (va_A (wX cs a n f ++ ((o, .inl (c3, 1, .inr (.inl z))) :: wr)) sz)) 1 6 (va_A (wX cs a n f ++ ((o, .inl (c3, 1, .inr (.inl z))) :: wr)) sz) := by
  refine h_of (cc := cL_move) (maxL := 5) (ret := (some .int)) (own := RL) (by decide) rfl rfl (Nat.le_of_ble_eq_true rfl) ?_
  intro p e s m below meth c A hsz hAe hx hb hr hml hts hown hlocks htab hP hK hD hA hS hT hN ls hl
  have hl : lv_has ls 5 [(0, .ref (a 0)), (1, .int y0), (2, .int y1), (3, .ref o)] := hl
  have hPc : va_P (dC, dI) vwCl (wX cs a n f) s.heap := blkP (w0 := []) (wr := ((o, .inl (c3, 1, .inr (.inl z))) :: wr)) hP
  have hDc : va_D A (wX cs a n f) := blkD (w0 := []) (wr := ((o, .inl (c3, 1, .inr (.inl z))) :: wr)) hD
  have hKc : va_K (dC, dI) vwCl (tyl cs) s := hK.sub [0, 1] rfl
  obtain rfl : sz = s.heap.size := hsz.symm
  refine lv_aload_n hx hb dL_move_0 rfl (lv_at hl 3 rfl) ?_
  refine lv_iconst (v := nI 0) hx hb dL_move_1 (by decide) ?_
  refine lv_aload_n hx hb dL_move_2 rfl (lv_at hl 0 rfl) ?_
  refine lv_iload_n hx hb dL_move_3 rfl (lv_at hl 1 rfl) ?_
  refine lv_iload_n hx hb dL_move_4 rfl (lv_at hl 2 rfl) ?_
  refine blk_call (w0 := []) (wc := wX cs a n f) (wr := ((o, .inl (c3, 1, .inr (.inl z))) :: wr)) (w1 := wX cs a n' f') (ov := some (.int r)) (rest := [.int (nI 0), .ref o]) (va_runV (As := [.int y0, .int y1]) (rest := [.int (nI 0), .ref o]) ⟨hx, hb, hml, hown, hts⟩ hM (cwV 2 hts gL_move_X3_move rfl hrc hrs (by decide +kernel) ⟨by show rm.frames + 1 ≤ 9; omega, by show _ + rm.locals ≤ 200; omega⟩) (wr_preV (q := (RX3, TX3, 9)) hPc hKc hDc 0 rfl rfl) rfl rfl hl.1 rfl (lv_room (Nat.le_of_ble_eq_true rfl)) dL_move_5 ⟨Nat.le_of_ble_eq_true rfl, Nat.le_of_ble_eq_true rfl⟩) hS hP hD hA rfl (fun H locs hP hD hS => ?_)
  have hP : va_P (dC, dI) vwCl (wX cs a n' f' ++ ((o, .inl (c3, 1, .inr (.inl z))) :: wr)) H := hP
  have hD : va_D A (wX cs a n' f' ++ ((o, .inl (c3, 1, .inr (.inl z))) :: wr)) := hD
  refine W.eq (g2 := F0 m 8 ls (.int r :: [.int (nI 0), .ref o])) rfl ?_
  refine lv_i2l hx hb dL_move_8 rfl ?_
  refine va_last hx hb hK hP hD hS 19 2 rfl rfl (vp_in_nI (by decide) (by decide)) dL_move_9 (fun H locs hP hD hS => ?_)
  have hP : va_P (dC, dI) vwCl (wX cs a n' f' ++ ((o, .inl (c3, 1, .inr (.inl (vp_updL z (nI 0).toNatClampNeg r.toInt64)))) :: wr)) H := hP
  refine lv_goto (tgt := 17) hx hb dL_move_10 (by decide) ?_
  refine lv_iconst (v := nI 0) hx hb dL_move_17 (by decide) ?_
  refine W.widen (k := 1) (n := 6) (Nat.zero_le _) (Nat.zero_le _) ?_
  exact h_iret hx hb hr hlocks hP hS dL_move_18
set_option maxHeartbeats 4000000 in
set_option maxRecDepth 100000 in
theorem hl_move_t1 (l : Launch) (dC : Nat → ClassId) (dI : Nat → Nat → Nat) (cs : ClassId × ClassId) (c3 : ClassId) (a n : Nat → Nat) (f : Nat → Nat → Int32) (sz o : Nat) (z : Nat → Int64) (wr : va_W) (y0 y1 : Int32) (rm : Room) (hrc : rm.cells = 1) (hrs : rm.slots = 6) (hrf : rm.frames ≤ 7) (hrl : rm.locals ≤ 108) (hM : vx_Met l yX3_move wsX3_move rm (thPc (dC, dI) vwCl (wX cs a n f) (tyl cs) [.ref (a 0), .int y0, .int y1]) noQ (thX eA) 1 6 (fun _ => False)) : Met l yL_move wsL_move ({ frames := 9, cells := 1, slots := 6, locals := 200 }) (hpPc (dC, dI) vwCl (wX cs a n f ++ ((o, .inl (c3, 1, .inr (.inl z))) :: wr)) (tyl3 cs c3) sz [.ref (a 0), .int y0, .int y1, .ref o]) (wrQ (dC, dI) vwCl (wX cs a n f ++ ((o, .inl (c3, 1, .inr (.inl z))) :: wr)) (some (.int (nI 1))) (va_A (wX cs a n f ++ ((o, .inl (c3, 1, .inr (.inl z))) :: wr)) sz)) 1 6 (va_A (wX cs a n f ++ ((o, .inl (c3, 1, .inr (.inl z))) :: wr)) sz) := by
  refine h_of (cc := cL_move) (maxL := 5) (ret := (some .int)) (own := RL) (by decide) rfl rfl (Nat.le_of_ble_eq_true rfl) ?_
  intro p e s m below meth c A hsz hAe hx hb hr hml hts hown hlocks htab hP hK hD hA hS hT hN ls hl
  have hl : lv_has ls 5 [(0, .ref (a 0)), (1, .int y0), (2, .int y1), (3, .ref o)] := hl
  have hPc : va_P (dC, dI) vwCl (wX cs a n f) s.heap := blkP (w0 := []) (wr := ((o, .inl (c3, 1, .inr (.inl z))) :: wr)) hP
  have hDc : va_D A (wX cs a n f) := blkD (w0 := []) (wr := ((o, .inl (c3, 1, .inr (.inl z))) :: wr)) hD
  have hKc : va_K (dC, dI) vwCl (tyl cs) s := hK.sub [0, 1] rfl
  obtain rfl : sz = s.heap.size := hsz.symm
  refine lv_aload_n hx hb dL_move_0 rfl (lv_at hl 3 rfl) ?_
  refine lv_iconst (v := nI 0) hx hb dL_move_1 (by decide) ?_
  refine lv_aload_n hx hb dL_move_2 rfl (lv_at hl 0 rfl) ?_
  refine lv_iload_n hx hb dL_move_3 rfl (lv_at hl 1 rfl) ?_
  refine lv_iload_n hx hb dL_move_4 rfl (lv_at hl 2 rfl) ?_
  refine th_call (E0 := eA) (rest := [.int (nI 0), .ref o]) (vx_runV (As := [.int y0, .int y1]) (rest := [.int (nI 0), .ref o]) ⟨hx, hb, hml, hown, hts⟩ hM (cwV 2 hts gL_move_X3_move rfl hrc hrs (by decide +kernel) ⟨by show rm.frames + 1 ≤ 9; omega, by show _ + rm.locals ≤ 200; omega⟩) (th_preV (q := (RX3, TX3, 9)) hPc hKc (fun U hU hW => thB_moved hW (fun a9 h9 => by rw [hU]) hT) 0 rfl rfl) rfl rfl hl.1 rfl (lv_room (Nat.le_of_ble_eq_true rfl)) dL_move_5 ⟨Nat.le_of_ble_eq_true rfl, Nat.le_of_ble_eq_true rfl⟩) (fun ce q9 H1 hz9 hk9 hc9 hv9 hcl9 => ?_)
  have hP1 : va_P (dC, dI) vwCl (wX cs a n f ++ ((o, .inl (c3, 1, .inr (.inl z))) :: wr)) H1 := fun k9 q8 hq8 => (hP k9 q8 hq8).kept (hk9 q8.1 (hP k9 q8 hq8).lt)
  have hS1 : va_S A s.heap H1 [] := ⟨hz9, fun q8 h8 _ => hk9 q8 h8, fun _ h8 => nomatch h8⟩
  refine vx_catch (own := RL) (name := eA) (E := eA) hown (tableOf []) ⟨0, 10, 13, 13⟩ (tableOf []) htab (fun z9 h9 => nomatch h9) (by decide) (by decide) (mvW_moved (State.WarmedH.refl s) rfl hN.2.2.2) (mvW_moved (State.WarmedH.refl s) rfl (hT.1 (.castable eA eA) (by decide +kernel))) hc9 hv9 hcl9 ?_
  refine W.eq (g2 := F0 m 13 ls (.ref q9 :: [])) rfl ?_
  refine lv_astore hx hb dL_move_13 (lv_sub hl [] rfl) (Nat.le_of_ble_eq_true rfl) rfl (fun ls hl => ?_)
  refine lv_iconst (v := nI 1) hx hb dL_move_15 (by decide) ?_
  exact h_iret hx hb hr hlocks hP1 hS1 dL_move_16
set_option maxHeartbeats 4000000 in
set_option maxRecDepth 100000 in
theorem hl_port_w (l : Launch) (dC : Nat → ClassId) (dI : Nat → Nat → Nat) (cs : ClassId × ClassId) (c3 : ClassId) (a n : Nat → Nat) (f : Nat → Nat → Int32) (sz o : Nat) (z : Nat → Int64) (wr : va_W) (y0 y1 : Int32) (n' : Nat → Nat) (f' : Nat → Nat → Int32) (r : Int32) (rm : Room) (hrc : rm.cells = 0) (hrs : rm.slots = 0) (hrf : rm.frames ≤ 5) (hrl : rm.locals ≤ 108) (hM : Met l yX3_port wsX3_port rm (wrPc (dC, dI) vwCl (wX cs a n f) (tyl cs) sz [.ref (a 0), .int y0, .int y1]) (wrQ (dC, dI) vwCl (wX cs a n' f') (some (.int r)) (va_A (wX cs a n f) sz)) 0 0 (va_A (wX cs a n f) sz)) : Met l yL_port wsL_port ({ frames := 9, cells := 1, slots := 6, locals := 200 }) (hpPc (dC, dI) vwCl (wX cs a n f ++ ((o, .inl (c3, 1, .inr (.inl z))) :: wr)) (tyl3 cs c3) sz [.ref (a 0), .int y0, .int y1, .ref o]) (wrQ (dC, dI) vwCl (wX cs a n' f' ++ ((o, .inl (c3, 1, .inr (.inl (vp_updL z (nI 0).toNatClampNeg r.toInt64)))) :: wr)) (some (.int (nI 0))) (va_A (wX cs a n f ++ ((o, .inl (c3, 1, .inr (.inl z))) :: wr)) sz)) 1 6 (va_A (wX cs a n f ++ ((o, .inl (c3, 1, .inr (.inl z))) :: wr)) sz) := by
  refine h_of (cc := cL_port) (maxL := 5) (ret := (some .int)) (own := RL) (by decide) rfl rfl (Nat.le_of_ble_eq_true rfl) ?_
  intro p e s m below meth c A hsz hAe hx hb hr hml hts hown hlocks htab hP hK hD hA hS hT hN ls hl
  have hl : lv_has ls 5 [(0, .ref (a 0)), (1, .int y0), (2, .int y1), (3, .ref o)] := hl
  have hPc : va_P (dC, dI) vwCl (wX cs a n f) s.heap := blkP (w0 := []) (wr := ((o, .inl (c3, 1, .inr (.inl z))) :: wr)) hP
  have hDc : va_D A (wX cs a n f) := blkD (w0 := []) (wr := ((o, .inl (c3, 1, .inr (.inl z))) :: wr)) hD
  have hKc : va_K (dC, dI) vwCl (tyl cs) s := hK.sub [0, 1] rfl
  obtain rfl : sz = s.heap.size := hsz.symm
  refine lv_aload_n hx hb dL_port_0 rfl (lv_at hl 3 rfl) ?_
  refine lv_iconst (v := nI 0) hx hb dL_port_1 (by decide) ?_
  refine lv_aload_n hx hb dL_port_2 rfl (lv_at hl 0 rfl) ?_
  refine lv_iload_n hx hb dL_port_3 rfl (lv_at hl 1 rfl) ?_
  refine lv_iload_n hx hb dL_port_4 rfl (lv_at hl 2 rfl) ?_
  refine blk_call (w0 := []) (wc := wX cs a n f) (wr := ((o, .inl (c3, 1, .inr (.inl z))) :: wr)) (w1 := wX cs a n' f') (ov := some (.int r)) (rest := [.int (nI 0), .ref o]) (va_runV (As := [.int y0, .int y1]) (rest := [.int (nI 0), .ref o]) ⟨hx, hb, hml, hown, hts⟩ hM (cwV 2 hts gL_port_X3_port rfl hrc hrs (by decide +kernel) ⟨by show rm.frames + 1 ≤ 9; omega, by show _ + rm.locals ≤ 200; omega⟩) (wr_preV (q := (RX3, TX3, 9)) hPc hKc hDc 0 rfl rfl) rfl rfl hl.1 rfl (lv_room (Nat.le_of_ble_eq_true rfl)) dL_port_5 ⟨Nat.le_of_ble_eq_true rfl, Nat.le_of_ble_eq_true rfl⟩) hS hP hD hA rfl (fun H locs hP hD hS => ?_)
  have hP : va_P (dC, dI) vwCl (wX cs a n' f' ++ ((o, .inl (c3, 1, .inr (.inl z))) :: wr)) H := hP
  have hD : va_D A (wX cs a n' f' ++ ((o, .inl (c3, 1, .inr (.inl z))) :: wr)) := hD
  refine W.eq (g2 := F0 m 8 ls (.int r :: [.int (nI 0), .ref o])) rfl ?_
  refine lv_i2l hx hb dL_port_8 rfl ?_
  refine va_last hx hb hK hP hD hS 19 2 rfl rfl (vp_in_nI (by decide) (by decide)) dL_port_9 (fun H locs hP hD hS => ?_)
  have hP : va_P (dC, dI) vwCl (wX cs a n' f' ++ ((o, .inl (c3, 1, .inr (.inl (vp_updL z (nI 0).toNatClampNeg r.toInt64)))) :: wr)) H := hP
  refine lv_goto (tgt := 25) hx hb dL_port_10 (by decide) ?_
  refine lv_iconst (v := nI 0) hx hb dL_port_25 (by decide) ?_
  refine W.widen (k := 1) (n := 6) (Nat.zero_le _) (Nat.zero_le _) ?_
  exact h_iret hx hb hr hlocks hP hS dL_port_26
set_option maxHeartbeats 4000000 in
set_option maxRecDepth 100000 in
theorem hl_port_t1 (l : Launch) (dC : Nat → ClassId) (dI : Nat → Nat → Nat) (cs : ClassId × ClassId) (c3 : ClassId) (a n : Nat → Nat) (f : Nat → Nat → Int32) (sz o : Nat) (z : Nat → Int64) (wr : va_W) (y0 y1 : Int32) (rm : Room) (hrc : rm.cells = 1) (hrs : rm.slots = 6) (hrf : rm.frames ≤ 7) (hrl : rm.locals ≤ 108) (hM : vx_Met l yX3_port wsX3_port rm (thPc (dC, dI) vwCl (wX cs a n f) (tyl cs) [.ref (a 0), .int y0, .int y1]) noQ (thX eA) 1 6 (fun _ => False)) : Met l yL_port wsL_port ({ frames := 9, cells := 1, slots := 6, locals := 200 }) (hpPc (dC, dI) vwCl (wX cs a n f ++ ((o, .inl (c3, 1, .inr (.inl z))) :: wr)) (tyl3 cs c3) sz [.ref (a 0), .int y0, .int y1, .ref o]) (wrQ (dC, dI) vwCl (wX cs a n f ++ ((o, .inl (c3, 1, .inr (.inl z))) :: wr)) (some (.int (nI 1))) (va_A (wX cs a n f ++ ((o, .inl (c3, 1, .inr (.inl z))) :: wr)) sz)) 1 6 (va_A (wX cs a n f ++ ((o, .inl (c3, 1, .inr (.inl z))) :: wr)) sz) := by
  refine h_of (cc := cL_port) (maxL := 5) (ret := (some .int)) (own := RL) (by decide) rfl rfl (Nat.le_of_ble_eq_true rfl) ?_
  intro p e s m below meth c A hsz hAe hx hb hr hml hts hown hlocks htab hP hK hD hA hS hT hN ls hl
  have hl : lv_has ls 5 [(0, .ref (a 0)), (1, .int y0), (2, .int y1), (3, .ref o)] := hl
  have hPc : va_P (dC, dI) vwCl (wX cs a n f) s.heap := blkP (w0 := []) (wr := ((o, .inl (c3, 1, .inr (.inl z))) :: wr)) hP
  have hDc : va_D A (wX cs a n f) := blkD (w0 := []) (wr := ((o, .inl (c3, 1, .inr (.inl z))) :: wr)) hD
  have hKc : va_K (dC, dI) vwCl (tyl cs) s := hK.sub [0, 1] rfl
  obtain rfl : sz = s.heap.size := hsz.symm
  refine lv_aload_n hx hb dL_port_0 rfl (lv_at hl 3 rfl) ?_
  refine lv_iconst (v := nI 0) hx hb dL_port_1 (by decide) ?_
  refine lv_aload_n hx hb dL_port_2 rfl (lv_at hl 0 rfl) ?_
  refine lv_iload_n hx hb dL_port_3 rfl (lv_at hl 1 rfl) ?_
  refine lv_iload_n hx hb dL_port_4 rfl (lv_at hl 2 rfl) ?_
  refine th_call (E0 := eA) (rest := [.int (nI 0), .ref o]) (vx_runV (As := [.int y0, .int y1]) (rest := [.int (nI 0), .ref o]) ⟨hx, hb, hml, hown, hts⟩ hM (cwV 2 hts gL_port_X3_port rfl hrc hrs (by decide +kernel) ⟨by show rm.frames + 1 ≤ 9; omega, by show _ + rm.locals ≤ 200; omega⟩) (th_preV (q := (RX3, TX3, 9)) hPc hKc (fun U hU hW => thB_moved hW (fun a9 h9 => by rw [hU]) hT) 0 rfl rfl) rfl rfl hl.1 rfl (lv_room (Nat.le_of_ble_eq_true rfl)) dL_port_5 ⟨Nat.le_of_ble_eq_true rfl, Nat.le_of_ble_eq_true rfl⟩) (fun ce q9 H1 hz9 hk9 hc9 hv9 hcl9 => ?_)
  have hP1 : va_P (dC, dI) vwCl (wX cs a n f ++ ((o, .inl (c3, 1, .inr (.inl z))) :: wr)) H1 := fun k9 q8 hq8 => (hP k9 q8 hq8).kept (hk9 q8.1 (hP k9 q8 hq8).lt)
  have hS1 : va_S A s.heap H1 [] := ⟨hz9, fun q8 h8 _ => hk9 q8 h8, fun _ h8 => nomatch h8⟩
  refine vx_catch (own := RL) (name := eA) (E := eA) hown (tableOf []) ⟨0, 10, 13, 13⟩ (tableOf [(0, 10, 17, 22), (0, 10, 21, 24)]) htab (fun z9 h9 => nomatch h9) (by decide) (by decide) (mvW_moved (State.WarmedH.refl s) rfl hN.2.2.2) (mvW_moved (State.WarmedH.refl s) rfl (hT.1 (.castable eA eA) (by decide +kernel))) hc9 hv9 hcl9 ?_
  refine W.eq (g2 := F0 m 13 ls (.ref q9 :: [])) rfl ?_
  refine lv_astore hx hb dL_port_13 (lv_sub hl [] rfl) (Nat.le_of_ble_eq_true rfl) rfl (fun ls hl => ?_)
  refine lv_iconst (v := nI 1) hx hb dL_port_15 (by decide) ?_
  exact h_iret hx hb hr hlocks hP1 hS1 dL_port_16
set_option maxHeartbeats 4000000 in
set_option maxRecDepth 100000 in
theorem hl_port_t2 (l : Launch) (dC : Nat → ClassId) (dI : Nat → Nat → Nat) (cs : ClassId × ClassId) (c3 : ClassId) (a n : Nat → Nat) (f : Nat → Nat → Int32) (sz o : Nat) (z : Nat → Int64) (wr : va_W) (y0 y1 : Int32) (rm : Room) (hrc : rm.cells = 1) (hrs : rm.slots = 6) (hrf : rm.frames ≤ 7) (hrl : rm.locals ≤ 108) (hM : vx_Met l yX3_port wsX3_port rm (thPc (dC, dI) vwCl (wX cs a n f) (tyl cs) [.ref (a 0), .int y0, .int y1]) noQ (thX eS) 1 6 (fun _ => False)) : Met l yL_port wsL_port ({ frames := 9, cells := 1, slots := 6, locals := 200 }) (hpPc (dC, dI) vwCl (wX cs a n f ++ ((o, .inl (c3, 1, .inr (.inl z))) :: wr)) (tyl3 cs c3) sz [.ref (a 0), .int y0, .int y1, .ref o]) (wrQ (dC, dI) vwCl (wX cs a n f ++ ((o, .inl (c3, 1, .inr (.inl z))) :: wr)) (some (.int (nI 2))) (va_A (wX cs a n f ++ ((o, .inl (c3, 1, .inr (.inl z))) :: wr)) sz)) 1 6 (va_A (wX cs a n f ++ ((o, .inl (c3, 1, .inr (.inl z))) :: wr)) sz) := by
  refine h_of (cc := cL_port) (maxL := 5) (ret := (some .int)) (own := RL) (by decide) rfl rfl (Nat.le_of_ble_eq_true rfl) ?_
  intro p e s m below meth c A hsz hAe hx hb hr hml hts hown hlocks htab hP hK hD hA hS hT hN ls hl
  have hl : lv_has ls 5 [(0, .ref (a 0)), (1, .int y0), (2, .int y1), (3, .ref o)] := hl
  have hPc : va_P (dC, dI) vwCl (wX cs a n f) s.heap := blkP (w0 := []) (wr := ((o, .inl (c3, 1, .inr (.inl z))) :: wr)) hP
  have hDc : va_D A (wX cs a n f) := blkD (w0 := []) (wr := ((o, .inl (c3, 1, .inr (.inl z))) :: wr)) hD
  have hKc : va_K (dC, dI) vwCl (tyl cs) s := hK.sub [0, 1] rfl
  obtain rfl : sz = s.heap.size := hsz.symm
  refine lv_aload_n hx hb dL_port_0 rfl (lv_at hl 3 rfl) ?_
  refine lv_iconst (v := nI 0) hx hb dL_port_1 (by decide) ?_
  refine lv_aload_n hx hb dL_port_2 rfl (lv_at hl 0 rfl) ?_
  refine lv_iload_n hx hb dL_port_3 rfl (lv_at hl 1 rfl) ?_
  refine lv_iload_n hx hb dL_port_4 rfl (lv_at hl 2 rfl) ?_
  refine th_call (E0 := eS) (rest := [.int (nI 0), .ref o]) (vx_runV (As := [.int y0, .int y1]) (rest := [.int (nI 0), .ref o]) ⟨hx, hb, hml, hown, hts⟩ hM (cwV 2 hts gL_port_X3_port rfl hrc hrs (by decide +kernel) ⟨by show rm.frames + 1 ≤ 9; omega, by show _ + rm.locals ≤ 200; omega⟩) (th_preV (q := (RX3, TX3, 9)) hPc hKc (fun U hU hW => thB_moved hW (fun a9 h9 => by rw [hU]) hT) 0 rfl rfl) rfl rfl hl.1 rfl (lv_room (Nat.le_of_ble_eq_true rfl)) dL_port_5 ⟨Nat.le_of_ble_eq_true rfl, Nat.le_of_ble_eq_true rfl⟩) (fun ce q9 H1 hz9 hk9 hc9 hv9 hcl9 => ?_)
  have hP1 : va_P (dC, dI) vwCl (wX cs a n f ++ ((o, .inl (c3, 1, .inr (.inl z))) :: wr)) H1 := fun k9 q8 hq8 => (hP k9 q8 hq8).kept (hk9 q8.1 (hP k9 q8 hq8).lt)
  have hS1 : va_S A s.heap H1 [] := ⟨hz9, fun q8 h8 _ => hk9 q8 h8, fun _ h8 => nomatch h8⟩
  refine vx_catch (own := RL) (name := eS) (E := eS) hown (tableOf [(0, 10, 13, 13)]) ⟨0, 10, 17, 22⟩ (tableOf [(0, 10, 21, 24)]) htab (fun z9 h9 => by
    rcases List.mem_cons.mp h9 with rfl | h9
    · exact (Or.inr ⟨by decide, eA, mvW_moved (State.WarmedH.refl s) rfl hN.2.2.2, hN.1⟩)
    cases h9) (by decide) (by decide) (hts (.classLink RL 22 eS) (by decide +kernel)) (mvW_moved (State.WarmedH.refl s) rfl (hT.2.1 (.castable eS eS) (by decide +kernel))) hc9 hv9 hcl9 ?_
  refine W.eq (g2 := F0 m 17 ls (.ref q9 :: [])) rfl ?_
  refine lv_astore hx hb dL_port_17 (lv_sub hl [] rfl) (Nat.le_of_ble_eq_true rfl) rfl (fun ls hl => ?_)
  refine lv_iconst (v := nI 2) hx hb dL_port_19 (by decide) ?_
  exact h_iret hx hb hr hlocks hP1 hS1 dL_port_20
set_option maxHeartbeats 4000000 in
set_option maxRecDepth 100000 in
theorem hl_port_t3 (l : Launch) (dC : Nat → ClassId) (dI : Nat → Nat → Nat) (cs : ClassId × ClassId) (c3 : ClassId) (a n : Nat → Nat) (f : Nat → Nat → Int32) (sz o : Nat) (z : Nat → Int64) (wr : va_W) (y0 y1 : Int32) (rm : Room) (hrc : rm.cells = 1) (hrs : rm.slots = 6) (hrf : rm.frames ≤ 7) (hrl : rm.locals ≤ 108) (hM : vx_Met l yX3_port wsX3_port rm (thPc (dC, dI) vwCl (wX cs a n f) (tyl cs) [.ref (a 0), .int y0, .int y1]) noQ (thX eG) 1 6 (fun _ => False)) : Met l yL_port wsL_port ({ frames := 9, cells := 1, slots := 6, locals := 200 }) (hpPc (dC, dI) vwCl (wX cs a n f ++ ((o, .inl (c3, 1, .inr (.inl z))) :: wr)) (tyl3 cs c3) sz [.ref (a 0), .int y0, .int y1, .ref o]) (wrQ (dC, dI) vwCl (wX cs a n f ++ ((o, .inl (c3, 1, .inr (.inl z))) :: wr)) (some (.int (nI 3))) (va_A (wX cs a n f ++ ((o, .inl (c3, 1, .inr (.inl z))) :: wr)) sz)) 1 6 (va_A (wX cs a n f ++ ((o, .inl (c3, 1, .inr (.inl z))) :: wr)) sz) := by
  refine h_of (cc := cL_port) (maxL := 5) (ret := (some .int)) (own := RL) (by decide) rfl rfl (Nat.le_of_ble_eq_true rfl) ?_
  intro p e s m below meth c A hsz hAe hx hb hr hml hts hown hlocks htab hP hK hD hA hS hT hN ls hl
  have hl : lv_has ls 5 [(0, .ref (a 0)), (1, .int y0), (2, .int y1), (3, .ref o)] := hl
  have hPc : va_P (dC, dI) vwCl (wX cs a n f) s.heap := blkP (w0 := []) (wr := ((o, .inl (c3, 1, .inr (.inl z))) :: wr)) hP
  have hDc : va_D A (wX cs a n f) := blkD (w0 := []) (wr := ((o, .inl (c3, 1, .inr (.inl z))) :: wr)) hD
  have hKc : va_K (dC, dI) vwCl (tyl cs) s := hK.sub [0, 1] rfl
  obtain rfl : sz = s.heap.size := hsz.symm
  refine lv_aload_n hx hb dL_port_0 rfl (lv_at hl 3 rfl) ?_
  refine lv_iconst (v := nI 0) hx hb dL_port_1 (by decide) ?_
  refine lv_aload_n hx hb dL_port_2 rfl (lv_at hl 0 rfl) ?_
  refine lv_iload_n hx hb dL_port_3 rfl (lv_at hl 1 rfl) ?_
  refine lv_iload_n hx hb dL_port_4 rfl (lv_at hl 2 rfl) ?_
  refine th_call (E0 := eG) (rest := [.int (nI 0), .ref o]) (vx_runV (As := [.int y0, .int y1]) (rest := [.int (nI 0), .ref o]) ⟨hx, hb, hml, hown, hts⟩ hM (cwV 2 hts gL_port_X3_port rfl hrc hrs (by decide +kernel) ⟨by show rm.frames + 1 ≤ 9; omega, by show _ + rm.locals ≤ 200; omega⟩) (th_preV (q := (RX3, TX3, 9)) hPc hKc (fun U hU hW => thB_moved hW (fun a9 h9 => by rw [hU]) hT) 0 rfl rfl) rfl rfl hl.1 rfl (lv_room (Nat.le_of_ble_eq_true rfl)) dL_port_5 ⟨Nat.le_of_ble_eq_true rfl, Nat.le_of_ble_eq_true rfl⟩) (fun ce q9 H1 hz9 hk9 hc9 hv9 hcl9 => ?_)
  have hP1 : va_P (dC, dI) vwCl (wX cs a n f ++ ((o, .inl (c3, 1, .inr (.inl z))) :: wr)) H1 := fun k9 q8 hq8 => (hP k9 q8 hq8).kept (hk9 q8.1 (hP k9 q8 hq8).lt)
  have hS1 : va_S A s.heap H1 [] := ⟨hz9, fun q8 h8 _ => hk9 q8 h8, fun _ h8 => nomatch h8⟩
  refine vx_catch (own := RL) (name := eG) (E := eG) hown (tableOf [(0, 10, 13, 13), (0, 10, 17, 22)]) ⟨0, 10, 21, 24⟩ (tableOf []) htab (fun z9 h9 => by
    rcases List.mem_cons.mp h9 with rfl | h9
    · exact (Or.inr ⟨by decide, eA, mvW_moved (State.WarmedH.refl s) rfl hN.2.2.2, hN.2.1⟩)
    rcases List.mem_cons.mp h9 with rfl | h9
    · exact (Or.inr ⟨by decide, eS, hts (.classLink RL 22 eS) (by decide +kernel), hN.2.2.1⟩)
    cases h9) (by decide) (by decide) (hts (.classLink RL 24 eG) (by decide +kernel)) (mvW_moved (State.WarmedH.refl s) rfl (hT.2.2.1 (.castable eG eG) (by decide +kernel))) hc9 hv9 hcl9 ?_
  refine W.eq (g2 := F0 m 21 ls (.ref q9 :: [])) rfl ?_
  refine lv_astore hx hb dL_port_21 (lv_sub hl [] rfl) (Nat.le_of_ble_eq_true rfl) rfl (fun ls hl => ?_)
  refine lv_iconst (v := nI 3) hx hb dL_port_23 (by decide) ?_
  exact h_iret hx hb hr hlocks hP1 hS1 dL_port_24
set_option maxHeartbeats 4000000 in
set_option maxRecDepth 100000 in
theorem hl_select_w (l : Launch) (dC : Nat → ClassId) (dI : Nat → Nat → Nat) (cs : ClassId × ClassId) (c3 : ClassId) (a n : Nat → Nat) (f : Nat → Nat → Int32) (sz o : Nat) (z : Nat → Int64) (wr : va_W) (y0 : Int32) (n' : Nat → Nat) (f' : Nat → Nat → Int32) (r : Int32) (rm : Room) (hrc : rm.cells = 0) (hrs : rm.slots = 0) (hrf : rm.frames ≤ 5) (hrl : rm.locals ≤ 108) (hM : Met l yX3_select wsX3_select rm (wrPc (dC, dI) vwCl (wX cs a n f) (tyl cs) sz [.ref (a 0), .int y0]) (wrQ (dC, dI) vwCl (wX cs a n' f') (some (.int r)) (va_A (wX cs a n f) sz)) 0 0 (va_A (wX cs a n f) sz)) : Met l yL_select wsL_select ({ frames := 9, cells := 1, slots := 6, locals := 200 }) (hpPc (dC, dI) vwCl (wX cs a n f ++ ((o, .inl (c3, 1, .inr (.inl z))) :: wr)) (tyl3 cs c3) sz [.ref (a 0), .int y0, .ref o]) (wrQ (dC, dI) vwCl (wX cs a n' f' ++ ((o, .inl (c3, 1, .inr (.inl (vp_updL z (nI 0).toNatClampNeg r.toInt64)))) :: wr)) (some (.int (nI 0))) (va_A (wX cs a n f ++ ((o, .inl (c3, 1, .inr (.inl z))) :: wr)) sz)) 1 6 (va_A (wX cs a n f ++ ((o, .inl (c3, 1, .inr (.inl z))) :: wr)) sz) := by
  refine h_of (cc := cL_select) (maxL := 4) (ret := (some .int)) (own := RL) (by decide) rfl rfl (Nat.le_of_ble_eq_true rfl) ?_
  intro p e s m below meth c A hsz hAe hx hb hr hml hts hown hlocks htab hP hK hD hA hS hT hN ls hl
  have hl : lv_has ls 4 [(0, .ref (a 0)), (1, .int y0), (2, .ref o)] := hl
  have hPc : va_P (dC, dI) vwCl (wX cs a n f) s.heap := blkP (w0 := []) (wr := ((o, .inl (c3, 1, .inr (.inl z))) :: wr)) hP
  have hDc : va_D A (wX cs a n f) := blkD (w0 := []) (wr := ((o, .inl (c3, 1, .inr (.inl z))) :: wr)) hD
  have hKc : va_K (dC, dI) vwCl (tyl cs) s := hK.sub [0, 1] rfl
  obtain rfl : sz = s.heap.size := hsz.symm
  refine lv_aload_n hx hb dL_select_0 rfl (lv_at hl 2 rfl) ?_
  refine lv_iconst (v := nI 0) hx hb dL_select_1 (by decide) ?_
  refine lv_aload_n hx hb dL_select_2 rfl (lv_at hl 0 rfl) ?_
  refine lv_iload_n hx hb dL_select_3 rfl (lv_at hl 1 rfl) ?_
  refine blk_call (w0 := []) (wc := wX cs a n f) (wr := ((o, .inl (c3, 1, .inr (.inl z))) :: wr)) (w1 := wX cs a n' f') (ov := some (.int r)) (rest := [.int (nI 0), .ref o]) (va_runV (As := [.int y0]) (rest := [.int (nI 0), .ref o]) ⟨hx, hb, hml, hown, hts⟩ hM (cwV 1 hts gL_select_X3_select rfl hrc hrs (by decide +kernel) ⟨by show rm.frames + 1 ≤ 9; omega, by show _ + rm.locals ≤ 200; omega⟩) (wr_preV (q := (RX3, TX3, 9)) hPc hKc hDc 0 rfl rfl) rfl rfl hl.1 rfl (lv_room (Nat.le_of_ble_eq_true rfl)) dL_select_4 ⟨Nat.le_of_ble_eq_true rfl, Nat.le_of_ble_eq_true rfl⟩) hS hP hD hA rfl (fun H locs hP hD hS => ?_)
  have hP : va_P (dC, dI) vwCl (wX cs a n' f' ++ ((o, .inl (c3, 1, .inr (.inl z))) :: wr)) H := hP
  have hD : va_D A (wX cs a n' f' ++ ((o, .inl (c3, 1, .inr (.inl z))) :: wr)) := hD
  refine W.eq (g2 := F0 m 7 ls (.int r :: [.int (nI 0), .ref o])) rfl ?_
  refine lv_i2l hx hb dL_select_7 rfl ?_
  refine va_last hx hb hK hP hD hS 19 2 rfl rfl (vp_in_nI (by decide) (by decide)) dL_select_8 (fun H locs hP hD hS => ?_)
  have hP : va_P (dC, dI) vwCl (wX cs a n' f' ++ ((o, .inl (c3, 1, .inr (.inl (vp_updL z (nI 0).toNatClampNeg r.toInt64)))) :: wr)) H := hP
  refine lv_goto (tgt := 15) hx hb dL_select_9 (by decide) ?_
  refine lv_iconst (v := nI 0) hx hb dL_select_15 (by decide) ?_
  refine W.widen (k := 1) (n := 6) (Nat.zero_le _) (Nat.zero_le _) ?_
  exact h_iret hx hb hr hlocks hP hS dL_select_16
set_option maxHeartbeats 4000000 in
set_option maxRecDepth 100000 in
theorem hl_select_t1 (l : Launch) (dC : Nat → ClassId) (dI : Nat → Nat → Nat) (cs : ClassId × ClassId) (c3 : ClassId) (a n : Nat → Nat) (f : Nat → Nat → Int32) (sz o : Nat) (z : Nat → Int64) (wr : va_W) (y0 : Int32) (rm : Room) (hrc : rm.cells = 1) (hrs : rm.slots = 6) (hrf : rm.frames ≤ 7) (hrl : rm.locals ≤ 108) (hM : vx_Met l yX3_select wsX3_select rm (thPc (dC, dI) vwCl (wX cs a n f) (tyl cs) [.ref (a 0), .int y0]) noQ (thX eG) 1 6 (fun _ => False)) : Met l yL_select wsL_select ({ frames := 9, cells := 1, slots := 6, locals := 200 }) (hpPc (dC, dI) vwCl (wX cs a n f ++ ((o, .inl (c3, 1, .inr (.inl z))) :: wr)) (tyl3 cs c3) sz [.ref (a 0), .int y0, .ref o]) (wrQ (dC, dI) vwCl (wX cs a n f ++ ((o, .inl (c3, 1, .inr (.inl z))) :: wr)) (some (.int (nI 1))) (va_A (wX cs a n f ++ ((o, .inl (c3, 1, .inr (.inl z))) :: wr)) sz)) 1 6 (va_A (wX cs a n f ++ ((o, .inl (c3, 1, .inr (.inl z))) :: wr)) sz) := by
  refine h_of (cc := cL_select) (maxL := 4) (ret := (some .int)) (own := RL) (by decide) rfl rfl (Nat.le_of_ble_eq_true rfl) ?_
  intro p e s m below meth c A hsz hAe hx hb hr hml hts hown hlocks htab hP hK hD hA hS hT hN ls hl
  have hl : lv_has ls 4 [(0, .ref (a 0)), (1, .int y0), (2, .ref o)] := hl
  have hPc : va_P (dC, dI) vwCl (wX cs a n f) s.heap := blkP (w0 := []) (wr := ((o, .inl (c3, 1, .inr (.inl z))) :: wr)) hP
  have hDc : va_D A (wX cs a n f) := blkD (w0 := []) (wr := ((o, .inl (c3, 1, .inr (.inl z))) :: wr)) hD
  have hKc : va_K (dC, dI) vwCl (tyl cs) s := hK.sub [0, 1] rfl
  obtain rfl : sz = s.heap.size := hsz.symm
  refine lv_aload_n hx hb dL_select_0 rfl (lv_at hl 2 rfl) ?_
  refine lv_iconst (v := nI 0) hx hb dL_select_1 (by decide) ?_
  refine lv_aload_n hx hb dL_select_2 rfl (lv_at hl 0 rfl) ?_
  refine lv_iload_n hx hb dL_select_3 rfl (lv_at hl 1 rfl) ?_
  refine th_call (E0 := eG) (rest := [.int (nI 0), .ref o]) (vx_runV (As := [.int y0]) (rest := [.int (nI 0), .ref o]) ⟨hx, hb, hml, hown, hts⟩ hM (cwV 1 hts gL_select_X3_select rfl hrc hrs (by decide +kernel) ⟨by show rm.frames + 1 ≤ 9; omega, by show _ + rm.locals ≤ 200; omega⟩) (th_preV (q := (RX3, TX3, 9)) hPc hKc (fun U hU hW => thB_moved hW (fun a9 h9 => by rw [hU]) hT) 0 rfl rfl) rfl rfl hl.1 rfl (lv_room (Nat.le_of_ble_eq_true rfl)) dL_select_4 ⟨Nat.le_of_ble_eq_true rfl, Nat.le_of_ble_eq_true rfl⟩) (fun ce q9 H1 hz9 hk9 hc9 hv9 hcl9 => ?_)
  have hP1 : va_P (dC, dI) vwCl (wX cs a n f ++ ((o, .inl (c3, 1, .inr (.inl z))) :: wr)) H1 := fun k9 q8 hq8 => (hP k9 q8 hq8).kept (hk9 q8.1 (hP k9 q8 hq8).lt)
  have hS1 : va_S A s.heap H1 [] := ⟨hz9, fun q8 h8 _ => hk9 q8 h8, fun _ h8 => nomatch h8⟩
  refine vx_catch (own := RL) (name := eG) (E := eG) hown (tableOf []) ⟨0, 9, 12, 24⟩ (tableOf []) htab (fun z9 h9 => nomatch h9) (by decide) (by decide) (hts (.classLink RL 24 eG) (by decide +kernel)) (mvW_moved (State.WarmedH.refl s) rfl (hT.2.2.1 (.castable eG eG) (by decide +kernel))) hc9 hv9 hcl9 ?_
  refine W.eq (g2 := F0 m 12 ls (.ref q9 :: [])) rfl ?_
  refine lv_astore_n hx hb dL_select_12 rfl (lv_sub hl [] rfl) (Nat.le_of_ble_eq_true rfl) rfl (fun ls hl => ?_)
  refine lv_iconst (v := nI 1) hx hb dL_select_13 (by decide) ?_
  exact h_iret hx hb hr hlocks hP1 hS1 dL_select_14
set_option maxHeartbeats 4000000 in
set_option maxRecDepth 100000 in
theorem hl_end_w (l : Launch) (dC : Nat → ClassId) (dI : Nat → Nat → Nat) (cs : ClassId × ClassId) (c3 : ClassId) (a n : Nat → Nat) (f : Nat → Nat → Int32) (sz o : Nat) (z : Nat → Int64) (wr : va_W) (y0 : Int32) (n' : Nat → Nat) (f' : Nat → Nat → Int32) (r : Int32) (rm : Room) (hrc : rm.cells = 0) (hrs : rm.slots = 0) (hrf : rm.frames ≤ 5) (hrl : rm.locals ≤ 108) (hM : Met l yX3_end wsX3_end rm (wrPc (dC, dI) vwCl (wX cs a n f) (tyl cs) sz [.ref (a 0), .int y0]) (wrQ (dC, dI) vwCl (wX cs a n' f') (some (.int r)) (va_A (wX cs a n f) sz)) 0 0 (va_A (wX cs a n f) sz)) : Met l yL_end wsL_end ({ frames := 9, cells := 1, slots := 6, locals := 200 }) (hpPc (dC, dI) vwCl (wX cs a n f ++ ((o, .inl (c3, 1, .inr (.inl z))) :: wr)) (tyl3 cs c3) sz [.ref (a 0), .int y0, .ref o]) (wrQ (dC, dI) vwCl (wX cs a n' f' ++ ((o, .inl (c3, 1, .inr (.inl (vp_updL z (nI 0).toNatClampNeg r.toInt64)))) :: wr)) (some (.int (nI 0))) (va_A (wX cs a n f ++ ((o, .inl (c3, 1, .inr (.inl z))) :: wr)) sz)) 1 6 (va_A (wX cs a n f ++ ((o, .inl (c3, 1, .inr (.inl z))) :: wr)) sz) := by
  refine h_of (cc := cL_end) (maxL := 4) (ret := (some .int)) (own := RL) (by decide) rfl rfl (Nat.le_of_ble_eq_true rfl) ?_
  intro p e s m below meth c A hsz hAe hx hb hr hml hts hown hlocks htab hP hK hD hA hS hT hN ls hl
  have hl : lv_has ls 4 [(0, .ref (a 0)), (1, .int y0), (2, .ref o)] := hl
  have hPc : va_P (dC, dI) vwCl (wX cs a n f) s.heap := blkP (w0 := []) (wr := ((o, .inl (c3, 1, .inr (.inl z))) :: wr)) hP
  have hDc : va_D A (wX cs a n f) := blkD (w0 := []) (wr := ((o, .inl (c3, 1, .inr (.inl z))) :: wr)) hD
  have hKc : va_K (dC, dI) vwCl (tyl cs) s := hK.sub [0, 1] rfl
  obtain rfl : sz = s.heap.size := hsz.symm
  refine lv_aload_n hx hb dL_end_0 rfl (lv_at hl 2 rfl) ?_
  refine lv_iconst (v := nI 0) hx hb dL_end_1 (by decide) ?_
  refine lv_aload_n hx hb dL_end_2 rfl (lv_at hl 0 rfl) ?_
  refine lv_iload_n hx hb dL_end_3 rfl (lv_at hl 1 rfl) ?_
  refine blk_call (w0 := []) (wc := wX cs a n f) (wr := ((o, .inl (c3, 1, .inr (.inl z))) :: wr)) (w1 := wX cs a n' f') (ov := some (.int r)) (rest := [.int (nI 0), .ref o]) (va_runV (As := [.int y0]) (rest := [.int (nI 0), .ref o]) ⟨hx, hb, hml, hown, hts⟩ hM (cwV 1 hts gL_end_X3_end rfl hrc hrs (by decide +kernel) ⟨by show rm.frames + 1 ≤ 9; omega, by show _ + rm.locals ≤ 200; omega⟩) (wr_preV (q := (RX3, TX3, 9)) hPc hKc hDc 0 rfl rfl) rfl rfl hl.1 rfl (lv_room (Nat.le_of_ble_eq_true rfl)) dL_end_4 ⟨Nat.le_of_ble_eq_true rfl, Nat.le_of_ble_eq_true rfl⟩) hS hP hD hA rfl (fun H locs hP hD hS => ?_)
  have hP : va_P (dC, dI) vwCl (wX cs a n' f' ++ ((o, .inl (c3, 1, .inr (.inl z))) :: wr)) H := hP
  have hD : va_D A (wX cs a n' f' ++ ((o, .inl (c3, 1, .inr (.inl z))) :: wr)) := hD
  refine W.eq (g2 := F0 m 7 ls (.int r :: [.int (nI 0), .ref o])) rfl ?_
  refine lv_i2l hx hb dL_end_7 rfl ?_
  refine va_last hx hb hK hP hD hS 19 2 rfl rfl (vp_in_nI (by decide) (by decide)) dL_end_8 (fun H locs hP hD hS => ?_)
  have hP : va_P (dC, dI) vwCl (wX cs a n' f' ++ ((o, .inl (c3, 1, .inr (.inl (vp_updL z (nI 0).toNatClampNeg r.toInt64)))) :: wr)) H := hP
  refine lv_goto (tgt := 18) hx hb dL_end_9 (by decide) ?_
  refine lv_iconst (v := nI 0) hx hb dL_end_18 (by decide) ?_
  refine W.widen (k := 1) (n := 6) (Nat.zero_le _) (Nat.zero_le _) ?_
  exact h_iret hx hb hr hlocks hP hS dL_end_19
set_option maxHeartbeats 4000000 in
set_option maxRecDepth 100000 in
theorem hl_end_t1 (l : Launch) (dC : Nat → ClassId) (dI : Nat → Nat → Nat) (cs : ClassId × ClassId) (c3 : ClassId) (a n : Nat → Nat) (f : Nat → Nat → Int32) (sz o : Nat) (z : Nat → Int64) (wr : va_W) (y0 : Int32) (rm : Room) (hrc : rm.cells = 1) (hrs : rm.slots = 6) (hrf : rm.frames ≤ 7) (hrl : rm.locals ≤ 108) (hM : vx_Met l yX3_end wsX3_end rm (thPc (dC, dI) vwCl (wX cs a n f) (tyl cs) [.ref (a 0), .int y0]) noQ (thX eA) 1 6 (fun _ => False)) : Met l yL_end wsL_end ({ frames := 9, cells := 1, slots := 6, locals := 200 }) (hpPc (dC, dI) vwCl (wX cs a n f ++ ((o, .inl (c3, 1, .inr (.inl z))) :: wr)) (tyl3 cs c3) sz [.ref (a 0), .int y0, .ref o]) (wrQ (dC, dI) vwCl (wX cs a n f ++ ((o, .inl (c3, 1, .inr (.inl z))) :: wr)) (some (.int (nI 1))) (va_A (wX cs a n f ++ ((o, .inl (c3, 1, .inr (.inl z))) :: wr)) sz)) 1 6 (va_A (wX cs a n f ++ ((o, .inl (c3, 1, .inr (.inl z))) :: wr)) sz) := by
  refine h_of (cc := cL_end) (maxL := 4) (ret := (some .int)) (own := RL) (by decide) rfl rfl (Nat.le_of_ble_eq_true rfl) ?_
  intro p e s m below meth c A hsz hAe hx hb hr hml hts hown hlocks htab hP hK hD hA hS hT hN ls hl
  have hl : lv_has ls 4 [(0, .ref (a 0)), (1, .int y0), (2, .ref o)] := hl
  have hPc : va_P (dC, dI) vwCl (wX cs a n f) s.heap := blkP (w0 := []) (wr := ((o, .inl (c3, 1, .inr (.inl z))) :: wr)) hP
  have hDc : va_D A (wX cs a n f) := blkD (w0 := []) (wr := ((o, .inl (c3, 1, .inr (.inl z))) :: wr)) hD
  have hKc : va_K (dC, dI) vwCl (tyl cs) s := hK.sub [0, 1] rfl
  obtain rfl : sz = s.heap.size := hsz.symm
  refine lv_aload_n hx hb dL_end_0 rfl (lv_at hl 2 rfl) ?_
  refine lv_iconst (v := nI 0) hx hb dL_end_1 (by decide) ?_
  refine lv_aload_n hx hb dL_end_2 rfl (lv_at hl 0 rfl) ?_
  refine lv_iload_n hx hb dL_end_3 rfl (lv_at hl 1 rfl) ?_
  refine th_call (E0 := eA) (rest := [.int (nI 0), .ref o]) (vx_runV (As := [.int y0]) (rest := [.int (nI 0), .ref o]) ⟨hx, hb, hml, hown, hts⟩ hM (cwV 1 hts gL_end_X3_end rfl hrc hrs (by decide +kernel) ⟨by show rm.frames + 1 ≤ 9; omega, by show _ + rm.locals ≤ 200; omega⟩) (th_preV (q := (RX3, TX3, 9)) hPc hKc (fun U hU hW => thB_moved hW (fun a9 h9 => by rw [hU]) hT) 0 rfl rfl) rfl rfl hl.1 rfl (lv_room (Nat.le_of_ble_eq_true rfl)) dL_end_4 ⟨Nat.le_of_ble_eq_true rfl, Nat.le_of_ble_eq_true rfl⟩) (fun ce q9 H1 hz9 hk9 hc9 hv9 hcl9 => ?_)
  have hP1 : va_P (dC, dI) vwCl (wX cs a n f ++ ((o, .inl (c3, 1, .inr (.inl z))) :: wr)) H1 := fun k9 q8 hq8 => (hP k9 q8 hq8).kept (hk9 q8.1 (hP k9 q8 hq8).lt)
  have hS1 : va_S A s.heap H1 [] := ⟨hz9, fun q8 h8 _ => hk9 q8 h8, fun _ h8 => nomatch h8⟩
  refine vx_catch (own := RL) (name := eA) (E := eA) hown (tableOf []) ⟨0, 9, 12, 13⟩ (tableOf [(0, 9, 15, 22)]) htab (fun z9 h9 => nomatch h9) (by decide) (by decide) (mvW_moved (State.WarmedH.refl s) rfl hN.2.2.2) (mvW_moved (State.WarmedH.refl s) rfl (hT.1 (.castable eA eA) (by decide +kernel))) hc9 hv9 hcl9 ?_
  refine W.eq (g2 := F0 m 12 ls (.ref q9 :: [])) rfl ?_
  refine lv_astore_n hx hb dL_end_12 rfl (lv_sub hl [] rfl) (Nat.le_of_ble_eq_true rfl) rfl (fun ls hl => ?_)
  refine lv_iconst (v := nI 1) hx hb dL_end_13 (by decide) ?_
  exact h_iret hx hb hr hlocks hP1 hS1 dL_end_14
set_option maxHeartbeats 4000000 in
set_option maxRecDepth 100000 in
theorem hl_end_t2 (l : Launch) (dC : Nat → ClassId) (dI : Nat → Nat → Nat) (cs : ClassId × ClassId) (c3 : ClassId) (a n : Nat → Nat) (f : Nat → Nat → Int32) (sz o : Nat) (z : Nat → Int64) (wr : va_W) (y0 : Int32) (rm : Room) (hrc : rm.cells = 1) (hrs : rm.slots = 6) (hrf : rm.frames ≤ 7) (hrl : rm.locals ≤ 108) (hM : vx_Met l yX3_end wsX3_end rm (thPc (dC, dI) vwCl (wX cs a n f) (tyl cs) [.ref (a 0), .int y0]) noQ (thX eS) 1 6 (fun _ => False)) : Met l yL_end wsL_end ({ frames := 9, cells := 1, slots := 6, locals := 200 }) (hpPc (dC, dI) vwCl (wX cs a n f ++ ((o, .inl (c3, 1, .inr (.inl z))) :: wr)) (tyl3 cs c3) sz [.ref (a 0), .int y0, .ref o]) (wrQ (dC, dI) vwCl (wX cs a n f ++ ((o, .inl (c3, 1, .inr (.inl z))) :: wr)) (some (.int (nI 2))) (va_A (wX cs a n f ++ ((o, .inl (c3, 1, .inr (.inl z))) :: wr)) sz)) 1 6 (va_A (wX cs a n f ++ ((o, .inl (c3, 1, .inr (.inl z))) :: wr)) sz) := by
  refine h_of (cc := cL_end) (maxL := 4) (ret := (some .int)) (own := RL) (by decide) rfl rfl (Nat.le_of_ble_eq_true rfl) ?_
  intro p e s m below meth c A hsz hAe hx hb hr hml hts hown hlocks htab hP hK hD hA hS hT hN ls hl
  have hl : lv_has ls 4 [(0, .ref (a 0)), (1, .int y0), (2, .ref o)] := hl
  have hPc : va_P (dC, dI) vwCl (wX cs a n f) s.heap := blkP (w0 := []) (wr := ((o, .inl (c3, 1, .inr (.inl z))) :: wr)) hP
  have hDc : va_D A (wX cs a n f) := blkD (w0 := []) (wr := ((o, .inl (c3, 1, .inr (.inl z))) :: wr)) hD
  have hKc : va_K (dC, dI) vwCl (tyl cs) s := hK.sub [0, 1] rfl
  obtain rfl : sz = s.heap.size := hsz.symm
  refine lv_aload_n hx hb dL_end_0 rfl (lv_at hl 2 rfl) ?_
  refine lv_iconst (v := nI 0) hx hb dL_end_1 (by decide) ?_
  refine lv_aload_n hx hb dL_end_2 rfl (lv_at hl 0 rfl) ?_
  refine lv_iload_n hx hb dL_end_3 rfl (lv_at hl 1 rfl) ?_
  refine th_call (E0 := eS) (rest := [.int (nI 0), .ref o]) (vx_runV (As := [.int y0]) (rest := [.int (nI 0), .ref o]) ⟨hx, hb, hml, hown, hts⟩ hM (cwV 1 hts gL_end_X3_end rfl hrc hrs (by decide +kernel) ⟨by show rm.frames + 1 ≤ 9; omega, by show _ + rm.locals ≤ 200; omega⟩) (th_preV (q := (RX3, TX3, 9)) hPc hKc (fun U hU hW => thB_moved hW (fun a9 h9 => by rw [hU]) hT) 0 rfl rfl) rfl rfl hl.1 rfl (lv_room (Nat.le_of_ble_eq_true rfl)) dL_end_4 ⟨Nat.le_of_ble_eq_true rfl, Nat.le_of_ble_eq_true rfl⟩) (fun ce q9 H1 hz9 hk9 hc9 hv9 hcl9 => ?_)
  have hP1 : va_P (dC, dI) vwCl (wX cs a n f ++ ((o, .inl (c3, 1, .inr (.inl z))) :: wr)) H1 := fun k9 q8 hq8 => (hP k9 q8 hq8).kept (hk9 q8.1 (hP k9 q8 hq8).lt)
  have hS1 : va_S A s.heap H1 [] := ⟨hz9, fun q8 h8 _ => hk9 q8 h8, fun _ h8 => nomatch h8⟩
  refine vx_catch (own := RL) (name := eS) (E := eS) hown (tableOf [(0, 9, 12, 13)]) ⟨0, 9, 15, 22⟩ (tableOf []) htab (fun z9 h9 => by
    rcases List.mem_cons.mp h9 with rfl | h9
    · exact (Or.inr ⟨by decide, eA, mvW_moved (State.WarmedH.refl s) rfl hN.2.2.2, hN.1⟩)
    cases h9) (by decide) (by decide) (hts (.classLink RL 22 eS) (by decide +kernel)) (mvW_moved (State.WarmedH.refl s) rfl (hT.2.1 (.castable eS eS) (by decide +kernel))) hc9 hv9 hcl9 ?_
  refine W.eq (g2 := F0 m 15 ls (.ref q9 :: [])) rfl ?_
  refine lv_astore_n hx hb dL_end_15 rfl (lv_sub hl [] rfl) (Nat.le_of_ble_eq_true rfl) rfl (fun ls hl => ?_)
  refine lv_iconst (v := nI 2) hx hb dL_end_16 (by decide) ?_
  exact h_iret hx hb hr hlocks hP1 hS1 dL_end_17
set_option maxHeartbeats 4000000 in
set_option maxRecDepth 100000 in
theorem hl_commit_w (l : Launch) (dC : Nat → ClassId) (dI : Nat → Nat → Nat) (cs : ClassId × ClassId) (c3 : ClassId) (a n : Nat → Nat) (f : Nat → Nat → Int32) (sz o : Nat) (z : Nat → Int64) (wr : va_W) (y0 : Int32) (n' : Nat → Nat) (f' : Nat → Nat → Int32) (r : Int32) (rm : Room) (hrc : rm.cells = 0) (hrs : rm.slots = 0) (hrf : rm.frames ≤ 5) (hrl : rm.locals ≤ 108) (hM : Met l yX3_commit wsX3_commit rm (wrPc (dC, dI) vwCl (wX cs a n f) (tyl cs) sz [.ref (a 0), .int y0]) (wrQ (dC, dI) vwCl (wX cs a n' f') (some (.int r)) (va_A (wX cs a n f) sz)) 0 0 (va_A (wX cs a n f) sz)) : Met l yL_commit wsL_commit ({ frames := 9, cells := 1, slots := 6, locals := 200 }) (hpPc (dC, dI) vwCl (wX cs a n f ++ ((o, .inl (c3, 1, .inr (.inl z))) :: wr)) (tyl3 cs c3) sz [.ref (a 0), .int y0, .ref o]) (wrQ (dC, dI) vwCl (wX cs a n' f' ++ ((o, .inl (c3, 1, .inr (.inl (vp_updL z (nI 0).toNatClampNeg r.toInt64)))) :: wr)) (some (.int (nI 0))) (va_A (wX cs a n f ++ ((o, .inl (c3, 1, .inr (.inl z))) :: wr)) sz)) 1 6 (va_A (wX cs a n f ++ ((o, .inl (c3, 1, .inr (.inl z))) :: wr)) sz) := by
  refine h_of (cc := cL_commit) (maxL := 4) (ret := (some .int)) (own := RL) (by decide) rfl rfl (Nat.le_of_ble_eq_true rfl) ?_
  intro p e s m below meth c A hsz hAe hx hb hr hml hts hown hlocks htab hP hK hD hA hS hT hN ls hl
  have hl : lv_has ls 4 [(0, .ref (a 0)), (1, .int y0), (2, .ref o)] := hl
  have hPc : va_P (dC, dI) vwCl (wX cs a n f) s.heap := blkP (w0 := []) (wr := ((o, .inl (c3, 1, .inr (.inl z))) :: wr)) hP
  have hDc : va_D A (wX cs a n f) := blkD (w0 := []) (wr := ((o, .inl (c3, 1, .inr (.inl z))) :: wr)) hD
  have hKc : va_K (dC, dI) vwCl (tyl cs) s := hK.sub [0, 1] rfl
  obtain rfl : sz = s.heap.size := hsz.symm
  refine lv_aload_n hx hb dL_commit_0 rfl (lv_at hl 2 rfl) ?_
  refine lv_iconst (v := nI 0) hx hb dL_commit_1 (by decide) ?_
  refine lv_aload_n hx hb dL_commit_2 rfl (lv_at hl 0 rfl) ?_
  refine lv_iload_n hx hb dL_commit_3 rfl (lv_at hl 1 rfl) ?_
  refine blk_call (w0 := []) (wc := wX cs a n f) (wr := ((o, .inl (c3, 1, .inr (.inl z))) :: wr)) (w1 := wX cs a n' f') (ov := some (.int r)) (rest := [.int (nI 0), .ref o]) (va_runV (As := [.int y0]) (rest := [.int (nI 0), .ref o]) ⟨hx, hb, hml, hown, hts⟩ hM (cwV 1 hts gL_commit_X3_commit rfl hrc hrs (by decide +kernel) ⟨by show rm.frames + 1 ≤ 9; omega, by show _ + rm.locals ≤ 200; omega⟩) (wr_preV (q := (RX3, TX3, 9)) hPc hKc hDc 0 rfl rfl) rfl rfl hl.1 rfl (lv_room (Nat.le_of_ble_eq_true rfl)) dL_commit_4 ⟨Nat.le_of_ble_eq_true rfl, Nat.le_of_ble_eq_true rfl⟩) hS hP hD hA rfl (fun H locs hP hD hS => ?_)
  have hP : va_P (dC, dI) vwCl (wX cs a n' f' ++ ((o, .inl (c3, 1, .inr (.inl z))) :: wr)) H := hP
  have hD : va_D A (wX cs a n' f' ++ ((o, .inl (c3, 1, .inr (.inl z))) :: wr)) := hD
  refine W.eq (g2 := F0 m 7 ls (.int r :: [.int (nI 0), .ref o])) rfl ?_
  refine lv_i2l hx hb dL_commit_7 rfl ?_
  refine va_last hx hb hK hP hD hS 19 2 rfl rfl (vp_in_nI (by decide) (by decide)) dL_commit_8 (fun H locs hP hD hS => ?_)
  have hP : va_P (dC, dI) vwCl (wX cs a n' f' ++ ((o, .inl (c3, 1, .inr (.inl (vp_updL z (nI 0).toNatClampNeg r.toInt64)))) :: wr)) H := hP
  refine lv_goto (tgt := 15) hx hb dL_commit_9 (by decide) ?_
  refine lv_iconst (v := nI 0) hx hb dL_commit_15 (by decide) ?_
  refine W.widen (k := 1) (n := 6) (Nat.zero_le _) (Nat.zero_le _) ?_
  exact h_iret hx hb hr hlocks hP hS dL_commit_16
set_option maxHeartbeats 4000000 in
set_option maxRecDepth 100000 in
theorem hl_commit_t1 (l : Launch) (dC : Nat → ClassId) (dI : Nat → Nat → Nat) (cs : ClassId × ClassId) (c3 : ClassId) (a n : Nat → Nat) (f : Nat → Nat → Int32) (sz o : Nat) (z : Nat → Int64) (wr : va_W) (y0 : Int32) (rm : Room) (hrc : rm.cells = 1) (hrs : rm.slots = 6) (hrf : rm.frames ≤ 7) (hrl : rm.locals ≤ 108) (hM : vx_Met l yX3_commit wsX3_commit rm (thPc (dC, dI) vwCl (wX cs a n f) (tyl cs) [.ref (a 0), .int y0]) noQ (thX eG) 1 6 (fun _ => False)) : Met l yL_commit wsL_commit ({ frames := 9, cells := 1, slots := 6, locals := 200 }) (hpPc (dC, dI) vwCl (wX cs a n f ++ ((o, .inl (c3, 1, .inr (.inl z))) :: wr)) (tyl3 cs c3) sz [.ref (a 0), .int y0, .ref o]) (wrQ (dC, dI) vwCl (wX cs a n f ++ ((o, .inl (c3, 1, .inr (.inl z))) :: wr)) (some (.int (nI 1))) (va_A (wX cs a n f ++ ((o, .inl (c3, 1, .inr (.inl z))) :: wr)) sz)) 1 6 (va_A (wX cs a n f ++ ((o, .inl (c3, 1, .inr (.inl z))) :: wr)) sz) := by
  refine h_of (cc := cL_commit) (maxL := 4) (ret := (some .int)) (own := RL) (by decide) rfl rfl (Nat.le_of_ble_eq_true rfl) ?_
  intro p e s m below meth c A hsz hAe hx hb hr hml hts hown hlocks htab hP hK hD hA hS hT hN ls hl
  have hl : lv_has ls 4 [(0, .ref (a 0)), (1, .int y0), (2, .ref o)] := hl
  have hPc : va_P (dC, dI) vwCl (wX cs a n f) s.heap := blkP (w0 := []) (wr := ((o, .inl (c3, 1, .inr (.inl z))) :: wr)) hP
  have hDc : va_D A (wX cs a n f) := blkD (w0 := []) (wr := ((o, .inl (c3, 1, .inr (.inl z))) :: wr)) hD
  have hKc : va_K (dC, dI) vwCl (tyl cs) s := hK.sub [0, 1] rfl
  obtain rfl : sz = s.heap.size := hsz.symm
  refine lv_aload_n hx hb dL_commit_0 rfl (lv_at hl 2 rfl) ?_
  refine lv_iconst (v := nI 0) hx hb dL_commit_1 (by decide) ?_
  refine lv_aload_n hx hb dL_commit_2 rfl (lv_at hl 0 rfl) ?_
  refine lv_iload_n hx hb dL_commit_3 rfl (lv_at hl 1 rfl) ?_
  refine th_call (E0 := eG) (rest := [.int (nI 0), .ref o]) (vx_runV (As := [.int y0]) (rest := [.int (nI 0), .ref o]) ⟨hx, hb, hml, hown, hts⟩ hM (cwV 1 hts gL_commit_X3_commit rfl hrc hrs (by decide +kernel) ⟨by show rm.frames + 1 ≤ 9; omega, by show _ + rm.locals ≤ 200; omega⟩) (th_preV (q := (RX3, TX3, 9)) hPc hKc (fun U hU hW => thB_moved hW (fun a9 h9 => by rw [hU]) hT) 0 rfl rfl) rfl rfl hl.1 rfl (lv_room (Nat.le_of_ble_eq_true rfl)) dL_commit_4 ⟨Nat.le_of_ble_eq_true rfl, Nat.le_of_ble_eq_true rfl⟩) (fun ce q9 H1 hz9 hk9 hc9 hv9 hcl9 => ?_)
  have hP1 : va_P (dC, dI) vwCl (wX cs a n f ++ ((o, .inl (c3, 1, .inr (.inl z))) :: wr)) H1 := fun k9 q8 hq8 => (hP k9 q8 hq8).kept (hk9 q8.1 (hP k9 q8 hq8).lt)
  have hS1 : va_S A s.heap H1 [] := ⟨hz9, fun q8 h8 _ => hk9 q8 h8, fun _ h8 => nomatch h8⟩
  refine vx_catch (own := RL) (name := eG) (E := eG) hown (tableOf []) ⟨0, 9, 12, 24⟩ (tableOf []) htab (fun z9 h9 => nomatch h9) (by decide) (by decide) (hts (.classLink RL 24 eG) (by decide +kernel)) (mvW_moved (State.WarmedH.refl s) rfl (hT.2.2.1 (.castable eG eG) (by decide +kernel))) hc9 hv9 hcl9 ?_
  refine W.eq (g2 := F0 m 12 ls (.ref q9 :: [])) rfl ?_
  refine lv_astore_n hx hb dL_commit_12 rfl (lv_sub hl [] rfl) (Nat.le_of_ble_eq_true rfl) rfl (fun ls hl => ?_)
  refine lv_iconst (v := nI 1) hx hb dL_commit_13 (by decide) ?_
  exact h_iret hx hb hr hlocks hP1 hS1 dL_commit_14
set_option maxHeartbeats 4000000 in
set_option maxRecDepth 100000 in
theorem hl_right_w (l : Launch) (dC : Nat → ClassId) (dI : Nat → Nat → Nat) (cs : ClassId × ClassId) (c3 : ClassId) (a n : Nat → Nat) (f : Nat → Nat → Int32) (sz o : Nat) (z : Nat → Int64) (wr : va_W) (y0 : Int32) (n' : Nat → Nat) (f' : Nat → Nat → Int32) (r : Int32) (rm : Room) (hrc : rm.cells = 0) (hrs : rm.slots = 0) (hrf : rm.frames ≤ 5) (hrl : rm.locals ≤ 108) (hM : Met l yX3_right wsX3_right rm (wrPc (dC, dI) vwCl (wX cs a n f) (tyl cs) sz [.ref (a 0), .int y0]) (wrQ (dC, dI) vwCl (wX cs a n' f') (some (.int r)) (va_A (wX cs a n f) sz)) 0 0 (va_A (wX cs a n f) sz)) : Met l yL_right wsL_right ({ frames := 9, cells := 1, slots := 6, locals := 200 }) (hpPc (dC, dI) vwCl (wX cs a n f ++ ((o, .inl (c3, 1, .inr (.inl z))) :: wr)) (tyl3 cs c3) sz [.ref (a 0), .int y0, .ref o]) (wrQ (dC, dI) vwCl (wX cs a n' f' ++ ((o, .inl (c3, 1, .inr (.inl (vp_updL z (nI 0).toNatClampNeg r.toInt64)))) :: wr)) (some (.int (nI 0))) (va_A (wX cs a n f ++ ((o, .inl (c3, 1, .inr (.inl z))) :: wr)) sz)) 1 6 (va_A (wX cs a n f ++ ((o, .inl (c3, 1, .inr (.inl z))) :: wr)) sz) := by
  refine h_of (cc := cL_right) (maxL := 4) (ret := (some .int)) (own := RL) (by decide) rfl rfl (Nat.le_of_ble_eq_true rfl) ?_
  intro p e s m below meth c A hsz hAe hx hb hr hml hts hown hlocks htab hP hK hD hA hS hT hN ls hl
  have hl : lv_has ls 4 [(0, .ref (a 0)), (1, .int y0), (2, .ref o)] := hl
  have hPc : va_P (dC, dI) vwCl (wX cs a n f) s.heap := blkP (w0 := []) (wr := ((o, .inl (c3, 1, .inr (.inl z))) :: wr)) hP
  have hDc : va_D A (wX cs a n f) := blkD (w0 := []) (wr := ((o, .inl (c3, 1, .inr (.inl z))) :: wr)) hD
  have hKc : va_K (dC, dI) vwCl (tyl cs) s := hK.sub [0, 1] rfl
  obtain rfl : sz = s.heap.size := hsz.symm
  refine lv_aload_n hx hb dL_right_0 rfl (lv_at hl 2 rfl) ?_
  refine lv_iconst (v := nI 0) hx hb dL_right_1 (by decide) ?_
  refine lv_aload_n hx hb dL_right_2 rfl (lv_at hl 0 rfl) ?_
  refine lv_iload_n hx hb dL_right_3 rfl (lv_at hl 1 rfl) ?_
  refine blk_call (w0 := []) (wc := wX cs a n f) (wr := ((o, .inl (c3, 1, .inr (.inl z))) :: wr)) (w1 := wX cs a n' f') (ov := some (.int r)) (rest := [.int (nI 0), .ref o]) (va_runV (As := [.int y0]) (rest := [.int (nI 0), .ref o]) ⟨hx, hb, hml, hown, hts⟩ hM (cwV 1 hts gL_right_X3_right rfl hrc hrs (by decide +kernel) ⟨by show rm.frames + 1 ≤ 9; omega, by show _ + rm.locals ≤ 200; omega⟩) (wr_preV (q := (RX3, TX3, 9)) hPc hKc hDc 0 rfl rfl) rfl rfl hl.1 rfl (lv_room (Nat.le_of_ble_eq_true rfl)) dL_right_4 ⟨Nat.le_of_ble_eq_true rfl, Nat.le_of_ble_eq_true rfl⟩) hS hP hD hA rfl (fun H locs hP hD hS => ?_)
  have hP : va_P (dC, dI) vwCl (wX cs a n' f' ++ ((o, .inl (c3, 1, .inr (.inl z))) :: wr)) H := hP
  have hD : va_D A (wX cs a n' f' ++ ((o, .inl (c3, 1, .inr (.inl z))) :: wr)) := hD
  refine W.eq (g2 := F0 m 7 ls (.int r :: [.int (nI 0), .ref o])) rfl ?_
  refine lv_i2l hx hb dL_right_7 rfl ?_
  refine va_last hx hb hK hP hD hS 19 2 rfl rfl (vp_in_nI (by decide) (by decide)) dL_right_8 (fun H locs hP hD hS => ?_)
  have hP : va_P (dC, dI) vwCl (wX cs a n' f' ++ ((o, .inl (c3, 1, .inr (.inl (vp_updL z (nI 0).toNatClampNeg r.toInt64)))) :: wr)) H := hP
  refine lv_goto (tgt := 18) hx hb dL_right_9 (by decide) ?_
  refine lv_iconst (v := nI 0) hx hb dL_right_18 (by decide) ?_
  refine W.widen (k := 1) (n := 6) (Nat.zero_le _) (Nat.zero_le _) ?_
  exact h_iret hx hb hr hlocks hP hS dL_right_19
set_option maxHeartbeats 4000000 in
set_option maxRecDepth 100000 in
theorem hl_right_t1 (l : Launch) (dC : Nat → ClassId) (dI : Nat → Nat → Nat) (cs : ClassId × ClassId) (c3 : ClassId) (a n : Nat → Nat) (f : Nat → Nat → Int32) (sz o : Nat) (z : Nat → Int64) (wr : va_W) (y0 : Int32) (rm : Room) (hrc : rm.cells = 1) (hrs : rm.slots = 6) (hrf : rm.frames ≤ 7) (hrl : rm.locals ≤ 108) (hM : vx_Met l yX3_right wsX3_right rm (thPc (dC, dI) vwCl (wX cs a n f) (tyl cs) [.ref (a 0), .int y0]) noQ (thX eA) 1 6 (fun _ => False)) : Met l yL_right wsL_right ({ frames := 9, cells := 1, slots := 6, locals := 200 }) (hpPc (dC, dI) vwCl (wX cs a n f ++ ((o, .inl (c3, 1, .inr (.inl z))) :: wr)) (tyl3 cs c3) sz [.ref (a 0), .int y0, .ref o]) (wrQ (dC, dI) vwCl (wX cs a n f ++ ((o, .inl (c3, 1, .inr (.inl z))) :: wr)) (some (.int (nI 1))) (va_A (wX cs a n f ++ ((o, .inl (c3, 1, .inr (.inl z))) :: wr)) sz)) 1 6 (va_A (wX cs a n f ++ ((o, .inl (c3, 1, .inr (.inl z))) :: wr)) sz) := by
  refine h_of (cc := cL_right) (maxL := 4) (ret := (some .int)) (own := RL) (by decide) rfl rfl (Nat.le_of_ble_eq_true rfl) ?_
  intro p e s m below meth c A hsz hAe hx hb hr hml hts hown hlocks htab hP hK hD hA hS hT hN ls hl
  have hl : lv_has ls 4 [(0, .ref (a 0)), (1, .int y0), (2, .ref o)] := hl
  have hPc : va_P (dC, dI) vwCl (wX cs a n f) s.heap := blkP (w0 := []) (wr := ((o, .inl (c3, 1, .inr (.inl z))) :: wr)) hP
  have hDc : va_D A (wX cs a n f) := blkD (w0 := []) (wr := ((o, .inl (c3, 1, .inr (.inl z))) :: wr)) hD
  have hKc : va_K (dC, dI) vwCl (tyl cs) s := hK.sub [0, 1] rfl
  obtain rfl : sz = s.heap.size := hsz.symm
  refine lv_aload_n hx hb dL_right_0 rfl (lv_at hl 2 rfl) ?_
  refine lv_iconst (v := nI 0) hx hb dL_right_1 (by decide) ?_
  refine lv_aload_n hx hb dL_right_2 rfl (lv_at hl 0 rfl) ?_
  refine lv_iload_n hx hb dL_right_3 rfl (lv_at hl 1 rfl) ?_
  refine th_call (E0 := eA) (rest := [.int (nI 0), .ref o]) (vx_runV (As := [.int y0]) (rest := [.int (nI 0), .ref o]) ⟨hx, hb, hml, hown, hts⟩ hM (cwV 1 hts gL_right_X3_right rfl hrc hrs (by decide +kernel) ⟨by show rm.frames + 1 ≤ 9; omega, by show _ + rm.locals ≤ 200; omega⟩) (th_preV (q := (RX3, TX3, 9)) hPc hKc (fun U hU hW => thB_moved hW (fun a9 h9 => by rw [hU]) hT) 0 rfl rfl) rfl rfl hl.1 rfl (lv_room (Nat.le_of_ble_eq_true rfl)) dL_right_4 ⟨Nat.le_of_ble_eq_true rfl, Nat.le_of_ble_eq_true rfl⟩) (fun ce q9 H1 hz9 hk9 hc9 hv9 hcl9 => ?_)
  have hP1 : va_P (dC, dI) vwCl (wX cs a n f ++ ((o, .inl (c3, 1, .inr (.inl z))) :: wr)) H1 := fun k9 q8 hq8 => (hP k9 q8 hq8).kept (hk9 q8.1 (hP k9 q8 hq8).lt)
  have hS1 : va_S A s.heap H1 [] := ⟨hz9, fun q8 h8 _ => hk9 q8 h8, fun _ h8 => nomatch h8⟩
  refine vx_catch (own := RL) (name := eA) (E := eA) hown (tableOf []) ⟨0, 9, 12, 13⟩ (tableOf [(0, 9, 15, 22)]) htab (fun z9 h9 => nomatch h9) (by decide) (by decide) (mvW_moved (State.WarmedH.refl s) rfl hN.2.2.2) (mvW_moved (State.WarmedH.refl s) rfl (hT.1 (.castable eA eA) (by decide +kernel))) hc9 hv9 hcl9 ?_
  refine W.eq (g2 := F0 m 12 ls (.ref q9 :: [])) rfl ?_
  refine lv_astore_n hx hb dL_right_12 rfl (lv_sub hl [] rfl) (Nat.le_of_ble_eq_true rfl) rfl (fun ls hl => ?_)
  refine lv_iconst (v := nI 1) hx hb dL_right_13 (by decide) ?_
  exact h_iret hx hb hr hlocks hP1 hS1 dL_right_14
set_option maxHeartbeats 4000000 in
set_option maxRecDepth 100000 in
theorem hl_right_t2 (l : Launch) (dC : Nat → ClassId) (dI : Nat → Nat → Nat) (cs : ClassId × ClassId) (c3 : ClassId) (a n : Nat → Nat) (f : Nat → Nat → Int32) (sz o : Nat) (z : Nat → Int64) (wr : va_W) (y0 : Int32) (rm : Room) (hrc : rm.cells = 1) (hrs : rm.slots = 6) (hrf : rm.frames ≤ 7) (hrl : rm.locals ≤ 108) (hM : vx_Met l yX3_right wsX3_right rm (thPc (dC, dI) vwCl (wX cs a n f) (tyl cs) [.ref (a 0), .int y0]) noQ (thX eS) 1 6 (fun _ => False)) : Met l yL_right wsL_right ({ frames := 9, cells := 1, slots := 6, locals := 200 }) (hpPc (dC, dI) vwCl (wX cs a n f ++ ((o, .inl (c3, 1, .inr (.inl z))) :: wr)) (tyl3 cs c3) sz [.ref (a 0), .int y0, .ref o]) (wrQ (dC, dI) vwCl (wX cs a n f ++ ((o, .inl (c3, 1, .inr (.inl z))) :: wr)) (some (.int (nI 2))) (va_A (wX cs a n f ++ ((o, .inl (c3, 1, .inr (.inl z))) :: wr)) sz)) 1 6 (va_A (wX cs a n f ++ ((o, .inl (c3, 1, .inr (.inl z))) :: wr)) sz) := by
  refine h_of (cc := cL_right) (maxL := 4) (ret := (some .int)) (own := RL) (by decide) rfl rfl (Nat.le_of_ble_eq_true rfl) ?_
  intro p e s m below meth c A hsz hAe hx hb hr hml hts hown hlocks htab hP hK hD hA hS hT hN ls hl
  have hl : lv_has ls 4 [(0, .ref (a 0)), (1, .int y0), (2, .ref o)] := hl
  have hPc : va_P (dC, dI) vwCl (wX cs a n f) s.heap := blkP (w0 := []) (wr := ((o, .inl (c3, 1, .inr (.inl z))) :: wr)) hP
  have hDc : va_D A (wX cs a n f) := blkD (w0 := []) (wr := ((o, .inl (c3, 1, .inr (.inl z))) :: wr)) hD
  have hKc : va_K (dC, dI) vwCl (tyl cs) s := hK.sub [0, 1] rfl
  obtain rfl : sz = s.heap.size := hsz.symm
  refine lv_aload_n hx hb dL_right_0 rfl (lv_at hl 2 rfl) ?_
  refine lv_iconst (v := nI 0) hx hb dL_right_1 (by decide) ?_
  refine lv_aload_n hx hb dL_right_2 rfl (lv_at hl 0 rfl) ?_
  refine lv_iload_n hx hb dL_right_3 rfl (lv_at hl 1 rfl) ?_
  refine th_call (E0 := eS) (rest := [.int (nI 0), .ref o]) (vx_runV (As := [.int y0]) (rest := [.int (nI 0), .ref o]) ⟨hx, hb, hml, hown, hts⟩ hM (cwV 1 hts gL_right_X3_right rfl hrc hrs (by decide +kernel) ⟨by show rm.frames + 1 ≤ 9; omega, by show _ + rm.locals ≤ 200; omega⟩) (th_preV (q := (RX3, TX3, 9)) hPc hKc (fun U hU hW => thB_moved hW (fun a9 h9 => by rw [hU]) hT) 0 rfl rfl) rfl rfl hl.1 rfl (lv_room (Nat.le_of_ble_eq_true rfl)) dL_right_4 ⟨Nat.le_of_ble_eq_true rfl, Nat.le_of_ble_eq_true rfl⟩) (fun ce q9 H1 hz9 hk9 hc9 hv9 hcl9 => ?_)
  have hP1 : va_P (dC, dI) vwCl (wX cs a n f ++ ((o, .inl (c3, 1, .inr (.inl z))) :: wr)) H1 := fun k9 q8 hq8 => (hP k9 q8 hq8).kept (hk9 q8.1 (hP k9 q8 hq8).lt)
  have hS1 : va_S A s.heap H1 [] := ⟨hz9, fun q8 h8 _ => hk9 q8 h8, fun _ h8 => nomatch h8⟩
  refine vx_catch (own := RL) (name := eS) (E := eS) hown (tableOf [(0, 9, 12, 13)]) ⟨0, 9, 15, 22⟩ (tableOf []) htab (fun z9 h9 => by
    rcases List.mem_cons.mp h9 with rfl | h9
    · exact (Or.inr ⟨by decide, eA, mvW_moved (State.WarmedH.refl s) rfl hN.2.2.2, hN.1⟩)
    cases h9) (by decide) (by decide) (hts (.classLink RL 22 eS) (by decide +kernel)) (mvW_moved (State.WarmedH.refl s) rfl (hT.2.1 (.castable eS eS) (by decide +kernel))) hc9 hv9 hcl9 ?_
  refine W.eq (g2 := F0 m 15 ls (.ref q9 :: [])) rfl ?_
  refine lv_astore_n hx hb dL_right_15 rfl (lv_sub hl [] rfl) (Nat.le_of_ble_eq_true rfl) rfl (fun ls hl => ?_)
  refine lv_iconst (v := nI 2) hx hb dL_right_16 (by decide) ?_
  exact h_iret hx hb hr hlocks hP1 hS1 dL_right_17
set_option maxHeartbeats 4000000 in
set_option maxRecDepth 100000 in
theorem hl_wrong_w (l : Launch) (dC : Nat → ClassId) (dI : Nat → Nat → Nat) (cs : ClassId × ClassId) (c3 : ClassId) (a n : Nat → Nat) (f : Nat → Nat → Int32) (sz o : Nat) (z : Nat → Int64) (wr : va_W) (y0 : Int32) (n' : Nat → Nat) (f' : Nat → Nat → Int32) (r : Int32) (rm : Room) (hrc : rm.cells = 0) (hrs : rm.slots = 0) (hrf : rm.frames ≤ 5) (hrl : rm.locals ≤ 108) (hM : Met l yX3_wrong wsX3_wrong rm (wrPc (dC, dI) vwCl (wX cs a n f) (tyl cs) sz [.ref (a 0), .int y0]) (wrQ (dC, dI) vwCl (wX cs a n' f') (some (.int r)) (va_A (wX cs a n f) sz)) 0 0 (va_A (wX cs a n f) sz)) : Met l yL_wrong wsL_wrong ({ frames := 9, cells := 1, slots := 6, locals := 200 }) (hpPc (dC, dI) vwCl (wX cs a n f ++ ((o, .inl (c3, 1, .inr (.inl z))) :: wr)) (tyl3 cs c3) sz [.ref (a 0), .int y0, .ref o]) (wrQ (dC, dI) vwCl (wX cs a n' f' ++ ((o, .inl (c3, 1, .inr (.inl (vp_updL z (nI 0).toNatClampNeg r.toInt64)))) :: wr)) (some (.int (nI 0))) (va_A (wX cs a n f ++ ((o, .inl (c3, 1, .inr (.inl z))) :: wr)) sz)) 1 6 (va_A (wX cs a n f ++ ((o, .inl (c3, 1, .inr (.inl z))) :: wr)) sz) := by
  refine h_of (cc := cL_wrong) (maxL := 4) (ret := (some .int)) (own := RL) (by decide) rfl rfl (Nat.le_of_ble_eq_true rfl) ?_
  intro p e s m below meth c A hsz hAe hx hb hr hml hts hown hlocks htab hP hK hD hA hS hT hN ls hl
  have hl : lv_has ls 4 [(0, .ref (a 0)), (1, .int y0), (2, .ref o)] := hl
  have hPc : va_P (dC, dI) vwCl (wX cs a n f) s.heap := blkP (w0 := []) (wr := ((o, .inl (c3, 1, .inr (.inl z))) :: wr)) hP
  have hDc : va_D A (wX cs a n f) := blkD (w0 := []) (wr := ((o, .inl (c3, 1, .inr (.inl z))) :: wr)) hD
  have hKc : va_K (dC, dI) vwCl (tyl cs) s := hK.sub [0, 1] rfl
  obtain rfl : sz = s.heap.size := hsz.symm
  refine lv_aload_n hx hb dL_wrong_0 rfl (lv_at hl 2 rfl) ?_
  refine lv_iconst (v := nI 0) hx hb dL_wrong_1 (by decide) ?_
  refine lv_aload_n hx hb dL_wrong_2 rfl (lv_at hl 0 rfl) ?_
  refine lv_iload_n hx hb dL_wrong_3 rfl (lv_at hl 1 rfl) ?_
  refine blk_call (w0 := []) (wc := wX cs a n f) (wr := ((o, .inl (c3, 1, .inr (.inl z))) :: wr)) (w1 := wX cs a n' f') (ov := some (.int r)) (rest := [.int (nI 0), .ref o]) (va_runV (As := [.int y0]) (rest := [.int (nI 0), .ref o]) ⟨hx, hb, hml, hown, hts⟩ hM (cwV 1 hts gL_wrong_X3_wrong rfl hrc hrs (by decide +kernel) ⟨by show rm.frames + 1 ≤ 9; omega, by show _ + rm.locals ≤ 200; omega⟩) (wr_preV (q := (RX3, TX3, 9)) hPc hKc hDc 0 rfl rfl) rfl rfl hl.1 rfl (lv_room (Nat.le_of_ble_eq_true rfl)) dL_wrong_4 ⟨Nat.le_of_ble_eq_true rfl, Nat.le_of_ble_eq_true rfl⟩) hS hP hD hA rfl (fun H locs hP hD hS => ?_)
  have hP : va_P (dC, dI) vwCl (wX cs a n' f' ++ ((o, .inl (c3, 1, .inr (.inl z))) :: wr)) H := hP
  have hD : va_D A (wX cs a n' f' ++ ((o, .inl (c3, 1, .inr (.inl z))) :: wr)) := hD
  refine W.eq (g2 := F0 m 7 ls (.int r :: [.int (nI 0), .ref o])) rfl ?_
  refine lv_i2l hx hb dL_wrong_7 rfl ?_
  refine va_last hx hb hK hP hD hS 19 2 rfl rfl (vp_in_nI (by decide) (by decide)) dL_wrong_8 (fun H locs hP hD hS => ?_)
  have hP : va_P (dC, dI) vwCl (wX cs a n' f' ++ ((o, .inl (c3, 1, .inr (.inl (vp_updL z (nI 0).toNatClampNeg r.toInt64)))) :: wr)) H := hP
  refine lv_goto (tgt := 18) hx hb dL_wrong_9 (by decide) ?_
  refine lv_iconst (v := nI 0) hx hb dL_wrong_18 (by decide) ?_
  refine W.widen (k := 1) (n := 6) (Nat.zero_le _) (Nat.zero_le _) ?_
  exact h_iret hx hb hr hlocks hP hS dL_wrong_19
set_option maxHeartbeats 4000000 in
set_option maxRecDepth 100000 in
theorem hl_wrong_t1 (l : Launch) (dC : Nat → ClassId) (dI : Nat → Nat → Nat) (cs : ClassId × ClassId) (c3 : ClassId) (a n : Nat → Nat) (f : Nat → Nat → Int32) (sz o : Nat) (z : Nat → Int64) (wr : va_W) (y0 : Int32) (rm : Room) (hrc : rm.cells = 1) (hrs : rm.slots = 6) (hrf : rm.frames ≤ 7) (hrl : rm.locals ≤ 108) (hM : vx_Met l yX3_wrong wsX3_wrong rm (thPc (dC, dI) vwCl (wX cs a n f) (tyl cs) [.ref (a 0), .int y0]) noQ (thX eA) 1 6 (fun _ => False)) : Met l yL_wrong wsL_wrong ({ frames := 9, cells := 1, slots := 6, locals := 200 }) (hpPc (dC, dI) vwCl (wX cs a n f ++ ((o, .inl (c3, 1, .inr (.inl z))) :: wr)) (tyl3 cs c3) sz [.ref (a 0), .int y0, .ref o]) (wrQ (dC, dI) vwCl (wX cs a n f ++ ((o, .inl (c3, 1, .inr (.inl z))) :: wr)) (some (.int (nI 1))) (va_A (wX cs a n f ++ ((o, .inl (c3, 1, .inr (.inl z))) :: wr)) sz)) 1 6 (va_A (wX cs a n f ++ ((o, .inl (c3, 1, .inr (.inl z))) :: wr)) sz) := by
  refine h_of (cc := cL_wrong) (maxL := 4) (ret := (some .int)) (own := RL) (by decide) rfl rfl (Nat.le_of_ble_eq_true rfl) ?_
  intro p e s m below meth c A hsz hAe hx hb hr hml hts hown hlocks htab hP hK hD hA hS hT hN ls hl
  have hl : lv_has ls 4 [(0, .ref (a 0)), (1, .int y0), (2, .ref o)] := hl
  have hPc : va_P (dC, dI) vwCl (wX cs a n f) s.heap := blkP (w0 := []) (wr := ((o, .inl (c3, 1, .inr (.inl z))) :: wr)) hP
  have hDc : va_D A (wX cs a n f) := blkD (w0 := []) (wr := ((o, .inl (c3, 1, .inr (.inl z))) :: wr)) hD
  have hKc : va_K (dC, dI) vwCl (tyl cs) s := hK.sub [0, 1] rfl
  obtain rfl : sz = s.heap.size := hsz.symm
  refine lv_aload_n hx hb dL_wrong_0 rfl (lv_at hl 2 rfl) ?_
  refine lv_iconst (v := nI 0) hx hb dL_wrong_1 (by decide) ?_
  refine lv_aload_n hx hb dL_wrong_2 rfl (lv_at hl 0 rfl) ?_
  refine lv_iload_n hx hb dL_wrong_3 rfl (lv_at hl 1 rfl) ?_
  refine th_call (E0 := eA) (rest := [.int (nI 0), .ref o]) (vx_runV (As := [.int y0]) (rest := [.int (nI 0), .ref o]) ⟨hx, hb, hml, hown, hts⟩ hM (cwV 1 hts gL_wrong_X3_wrong rfl hrc hrs (by decide +kernel) ⟨by show rm.frames + 1 ≤ 9; omega, by show _ + rm.locals ≤ 200; omega⟩) (th_preV (q := (RX3, TX3, 9)) hPc hKc (fun U hU hW => thB_moved hW (fun a9 h9 => by rw [hU]) hT) 0 rfl rfl) rfl rfl hl.1 rfl (lv_room (Nat.le_of_ble_eq_true rfl)) dL_wrong_4 ⟨Nat.le_of_ble_eq_true rfl, Nat.le_of_ble_eq_true rfl⟩) (fun ce q9 H1 hz9 hk9 hc9 hv9 hcl9 => ?_)
  have hP1 : va_P (dC, dI) vwCl (wX cs a n f ++ ((o, .inl (c3, 1, .inr (.inl z))) :: wr)) H1 := fun k9 q8 hq8 => (hP k9 q8 hq8).kept (hk9 q8.1 (hP k9 q8 hq8).lt)
  have hS1 : va_S A s.heap H1 [] := ⟨hz9, fun q8 h8 _ => hk9 q8 h8, fun _ h8 => nomatch h8⟩
  refine vx_catch (own := RL) (name := eA) (E := eA) hown (tableOf []) ⟨0, 9, 12, 13⟩ (tableOf [(0, 9, 15, 22)]) htab (fun z9 h9 => nomatch h9) (by decide) (by decide) (mvW_moved (State.WarmedH.refl s) rfl hN.2.2.2) (mvW_moved (State.WarmedH.refl s) rfl (hT.1 (.castable eA eA) (by decide +kernel))) hc9 hv9 hcl9 ?_
  refine W.eq (g2 := F0 m 12 ls (.ref q9 :: [])) rfl ?_
  refine lv_astore_n hx hb dL_wrong_12 rfl (lv_sub hl [] rfl) (Nat.le_of_ble_eq_true rfl) rfl (fun ls hl => ?_)
  refine lv_iconst (v := nI 1) hx hb dL_wrong_13 (by decide) ?_
  exact h_iret hx hb hr hlocks hP1 hS1 dL_wrong_14
set_option maxHeartbeats 4000000 in
set_option maxRecDepth 100000 in
theorem hl_wrong_t2 (l : Launch) (dC : Nat → ClassId) (dI : Nat → Nat → Nat) (cs : ClassId × ClassId) (c3 : ClassId) (a n : Nat → Nat) (f : Nat → Nat → Int32) (sz o : Nat) (z : Nat → Int64) (wr : va_W) (y0 : Int32) (rm : Room) (hrc : rm.cells = 1) (hrs : rm.slots = 6) (hrf : rm.frames ≤ 7) (hrl : rm.locals ≤ 108) (hM : vx_Met l yX3_wrong wsX3_wrong rm (thPc (dC, dI) vwCl (wX cs a n f) (tyl cs) [.ref (a 0), .int y0]) noQ (thX eS) 1 6 (fun _ => False)) : Met l yL_wrong wsL_wrong ({ frames := 9, cells := 1, slots := 6, locals := 200 }) (hpPc (dC, dI) vwCl (wX cs a n f ++ ((o, .inl (c3, 1, .inr (.inl z))) :: wr)) (tyl3 cs c3) sz [.ref (a 0), .int y0, .ref o]) (wrQ (dC, dI) vwCl (wX cs a n f ++ ((o, .inl (c3, 1, .inr (.inl z))) :: wr)) (some (.int (nI 2))) (va_A (wX cs a n f ++ ((o, .inl (c3, 1, .inr (.inl z))) :: wr)) sz)) 1 6 (va_A (wX cs a n f ++ ((o, .inl (c3, 1, .inr (.inl z))) :: wr)) sz) := by
  refine h_of (cc := cL_wrong) (maxL := 4) (ret := (some .int)) (own := RL) (by decide) rfl rfl (Nat.le_of_ble_eq_true rfl) ?_
  intro p e s m below meth c A hsz hAe hx hb hr hml hts hown hlocks htab hP hK hD hA hS hT hN ls hl
  have hl : lv_has ls 4 [(0, .ref (a 0)), (1, .int y0), (2, .ref o)] := hl
  have hPc : va_P (dC, dI) vwCl (wX cs a n f) s.heap := blkP (w0 := []) (wr := ((o, .inl (c3, 1, .inr (.inl z))) :: wr)) hP
  have hDc : va_D A (wX cs a n f) := blkD (w0 := []) (wr := ((o, .inl (c3, 1, .inr (.inl z))) :: wr)) hD
  have hKc : va_K (dC, dI) vwCl (tyl cs) s := hK.sub [0, 1] rfl
  obtain rfl : sz = s.heap.size := hsz.symm
  refine lv_aload_n hx hb dL_wrong_0 rfl (lv_at hl 2 rfl) ?_
  refine lv_iconst (v := nI 0) hx hb dL_wrong_1 (by decide) ?_
  refine lv_aload_n hx hb dL_wrong_2 rfl (lv_at hl 0 rfl) ?_
  refine lv_iload_n hx hb dL_wrong_3 rfl (lv_at hl 1 rfl) ?_
  refine th_call (E0 := eS) (rest := [.int (nI 0), .ref o]) (vx_runV (As := [.int y0]) (rest := [.int (nI 0), .ref o]) ⟨hx, hb, hml, hown, hts⟩ hM (cwV 1 hts gL_wrong_X3_wrong rfl hrc hrs (by decide +kernel) ⟨by show rm.frames + 1 ≤ 9; omega, by show _ + rm.locals ≤ 200; omega⟩) (th_preV (q := (RX3, TX3, 9)) hPc hKc (fun U hU hW => thB_moved hW (fun a9 h9 => by rw [hU]) hT) 0 rfl rfl) rfl rfl hl.1 rfl (lv_room (Nat.le_of_ble_eq_true rfl)) dL_wrong_4 ⟨Nat.le_of_ble_eq_true rfl, Nat.le_of_ble_eq_true rfl⟩) (fun ce q9 H1 hz9 hk9 hc9 hv9 hcl9 => ?_)
  have hP1 : va_P (dC, dI) vwCl (wX cs a n f ++ ((o, .inl (c3, 1, .inr (.inl z))) :: wr)) H1 := fun k9 q8 hq8 => (hP k9 q8 hq8).kept (hk9 q8.1 (hP k9 q8 hq8).lt)
  have hS1 : va_S A s.heap H1 [] := ⟨hz9, fun q8 h8 _ => hk9 q8 h8, fun _ h8 => nomatch h8⟩
  refine vx_catch (own := RL) (name := eS) (E := eS) hown (tableOf [(0, 9, 12, 13)]) ⟨0, 9, 15, 22⟩ (tableOf []) htab (fun z9 h9 => by
    rcases List.mem_cons.mp h9 with rfl | h9
    · exact (Or.inr ⟨by decide, eA, mvW_moved (State.WarmedH.refl s) rfl hN.2.2.2, hN.1⟩)
    cases h9) (by decide) (by decide) (hts (.classLink RL 22 eS) (by decide +kernel)) (mvW_moved (State.WarmedH.refl s) rfl (hT.2.1 (.castable eS eS) (by decide +kernel))) hc9 hv9 hcl9 ?_
  refine W.eq (g2 := F0 m 15 ls (.ref q9 :: [])) rfl ?_
  refine lv_astore_n hx hb dL_wrong_15 rfl (lv_sub hl [] rfl) (Nat.le_of_ble_eq_true rfl) rfl (fun ls hl => ?_)
  refine lv_iconst (v := nI 2) hx hb dL_wrong_16 (by decide) ?_
  exact h_iret hx hb hr hlocks hP1 hS1 dL_wrong_17
set_option maxHeartbeats 4000000 in
set_option maxRecDepth 100000 in
theorem hl_selected_r (l : Launch) (dC : Nat → ClassId) (dI : Nat → Nat → Nat) (cs : ClassId × ClassId) (c3 : ClassId) (a n : Nat → Nat) (f : Nat → Nat → Int32) (sz o : Nat) (z : Nat → Int64) (wr : va_W) (y0 : Int32) (r : Int32) (rm : Room) (hrc : rm.cells = 0) (hrs : rm.slots = 0) (hrf : rm.frames ≤ 5) (hrl : rm.locals ≤ 108) (hM : Met l yX3_selected wsX3_selected rm (rdPc (dC, dI) vwCl (wX cs a n f) (tyl cs) [.ref (a 0), .int y0]) (QcRead r) 0 0 (fun _ => False)) : Met l yL_selected wsL_selected ({ frames := 9, cells := 1, slots := 6, locals := 200 }) (hpPc (dC, dI) vwCl (wX cs a n f ++ ((o, .inl (c3, 1, .inr (.inl z))) :: wr)) (tyl3 cs c3) sz [.ref (a 0), .int y0, .ref o]) (wrQ (dC, dI) vwCl (wX cs a n f ++ ((o, .inl (c3, 1, .inr (.inl (vp_updL z (nI 0).toNatClampNeg r.toInt64)))) :: wr)) (some (.int (nI 0))) (va_A (wX cs a n f ++ ((o, .inl (c3, 1, .inr (.inl z))) :: wr)) sz)) 1 6 (va_A (wX cs a n f ++ ((o, .inl (c3, 1, .inr (.inl z))) :: wr)) sz) := by
  refine h_of (cc := cL_selected) (maxL := 4) (ret := (some .int)) (own := RL) (by decide) rfl rfl (Nat.le_of_ble_eq_true rfl) ?_
  intro p e s m below meth c A hsz hAe hx hb hr hml hts hown hlocks htab hP hK hD hA hS hT hN ls hl
  have hl : lv_has ls 4 [(0, .ref (a 0)), (1, .int y0), (2, .ref o)] := hl
  have hPc : va_P (dC, dI) vwCl (wX cs a n f) s.heap := blkP (w0 := []) (wr := ((o, .inl (c3, 1, .inr (.inl z))) :: wr)) hP
  have hDc : va_D A (wX cs a n f) := blkD (w0 := []) (wr := ((o, .inl (c3, 1, .inr (.inl z))) :: wr)) hD
  have hKc : va_K (dC, dI) vwCl (tyl cs) s := hK.sub [0, 1] rfl
  obtain rfl : sz = s.heap.size := hsz.symm
  refine lv_aload_n hx hb dL_selected_0 rfl (lv_at hl 2 rfl) ?_
  refine lv_iconst (v := nI 0) hx hb dL_selected_1 (by decide) ?_
  refine lv_aload_n hx hb dL_selected_2 rfl (lv_at hl 0 rfl) ?_
  refine lv_iload_n hx hb dL_selected_3 rfl (lv_at hl 1 rfl) ?_
  refine W.callR (W.runV (As := [.int y0]) (rest := [.int (nI 0), .ref o]) ⟨hx, hb, hml, hown, hts⟩ hM (cwV 1 hts gL_selected_X3_selected rfl hrc hrs (by decide +kernel) ⟨by show rm.frames + 1 ≤ 9; omega, by show _ + rm.locals ≤ 200; omega⟩) (rd_preV (q := (RX3, TX3, 9)) hPc hKc 0 rfl rfl) rfl rfl hl.1 rfl (lv_room (Nat.le_of_ble_eq_true rfl)) dL_selected_4 ⟨Nat.zero_le _, Nat.zero_le _⟩) ?_
  refine W.eq (g2 := F0 m 7 ls (.int r :: [.int (nI 0), .ref o])) rfl ?_
  refine lv_i2l hx hb dL_selected_7 rfl ?_
  refine va_last hx hb hK hP hD hS 19 2 rfl rfl (vp_in_nI (by decide) (by decide)) dL_selected_8 (fun H locs hP hD hS => ?_)
  have hP : va_P (dC, dI) vwCl (wX cs a n f ++ ((o, .inl (c3, 1, .inr (.inl (vp_updL z (nI 0).toNatClampNeg r.toInt64)))) :: wr)) H := hP
  refine lv_goto (tgt := 15) hx hb dL_selected_9 (by decide) ?_
  refine lv_iconst (v := nI 0) hx hb dL_selected_15 (by decide) ?_
  refine W.widen (k := 1) (n := 6) (Nat.zero_le _) (Nat.zero_le _) ?_
  exact h_iret hx hb hr hlocks hP hS dL_selected_16
set_option maxHeartbeats 4000000 in
set_option maxRecDepth 100000 in
theorem hl_selected_t1 (l : Launch) (dC : Nat → ClassId) (dI : Nat → Nat → Nat) (cs : ClassId × ClassId) (c3 : ClassId) (a n : Nat → Nat) (f : Nat → Nat → Int32) (sz o : Nat) (z : Nat → Int64) (wr : va_W) (y0 : Int32) (rm : Room) (hrc : rm.cells = 1) (hrs : rm.slots = 6) (hrf : rm.frames ≤ 7) (hrl : rm.locals ≤ 108) (hM : vx_Met l yX3_selected wsX3_selected rm (thPc (dC, dI) vwCl (wX cs a n f) (tyl cs) [.ref (a 0), .int y0]) noQ (thX eA) 1 6 (fun _ => False)) : Met l yL_selected wsL_selected ({ frames := 9, cells := 1, slots := 6, locals := 200 }) (hpPc (dC, dI) vwCl (wX cs a n f ++ ((o, .inl (c3, 1, .inr (.inl z))) :: wr)) (tyl3 cs c3) sz [.ref (a 0), .int y0, .ref o]) (wrQ (dC, dI) vwCl (wX cs a n f ++ ((o, .inl (c3, 1, .inr (.inl z))) :: wr)) (some (.int (nI 1))) (va_A (wX cs a n f ++ ((o, .inl (c3, 1, .inr (.inl z))) :: wr)) sz)) 1 6 (va_A (wX cs a n f ++ ((o, .inl (c3, 1, .inr (.inl z))) :: wr)) sz) := by
  refine h_of (cc := cL_selected) (maxL := 4) (ret := (some .int)) (own := RL) (by decide) rfl rfl (Nat.le_of_ble_eq_true rfl) ?_
  intro p e s m below meth c A hsz hAe hx hb hr hml hts hown hlocks htab hP hK hD hA hS hT hN ls hl
  have hl : lv_has ls 4 [(0, .ref (a 0)), (1, .int y0), (2, .ref o)] := hl
  have hPc : va_P (dC, dI) vwCl (wX cs a n f) s.heap := blkP (w0 := []) (wr := ((o, .inl (c3, 1, .inr (.inl z))) :: wr)) hP
  have hDc : va_D A (wX cs a n f) := blkD (w0 := []) (wr := ((o, .inl (c3, 1, .inr (.inl z))) :: wr)) hD
  have hKc : va_K (dC, dI) vwCl (tyl cs) s := hK.sub [0, 1] rfl
  obtain rfl : sz = s.heap.size := hsz.symm
  refine lv_aload_n hx hb dL_selected_0 rfl (lv_at hl 2 rfl) ?_
  refine lv_iconst (v := nI 0) hx hb dL_selected_1 (by decide) ?_
  refine lv_aload_n hx hb dL_selected_2 rfl (lv_at hl 0 rfl) ?_
  refine lv_iload_n hx hb dL_selected_3 rfl (lv_at hl 1 rfl) ?_
  refine th_call (E0 := eA) (rest := [.int (nI 0), .ref o]) (vx_runV (As := [.int y0]) (rest := [.int (nI 0), .ref o]) ⟨hx, hb, hml, hown, hts⟩ hM (cwV 1 hts gL_selected_X3_selected rfl hrc hrs (by decide +kernel) ⟨by show rm.frames + 1 ≤ 9; omega, by show _ + rm.locals ≤ 200; omega⟩) (th_preV (q := (RX3, TX3, 9)) hPc hKc (fun U hU hW => thB_moved hW (fun a9 h9 => by rw [hU]) hT) 0 rfl rfl) rfl rfl hl.1 rfl (lv_room (Nat.le_of_ble_eq_true rfl)) dL_selected_4 ⟨Nat.le_of_ble_eq_true rfl, Nat.le_of_ble_eq_true rfl⟩) (fun ce q9 H1 hz9 hk9 hc9 hv9 hcl9 => ?_)
  have hP1 : va_P (dC, dI) vwCl (wX cs a n f ++ ((o, .inl (c3, 1, .inr (.inl z))) :: wr)) H1 := fun k9 q8 hq8 => (hP k9 q8 hq8).kept (hk9 q8.1 (hP k9 q8 hq8).lt)
  have hS1 : va_S A s.heap H1 [] := ⟨hz9, fun q8 h8 _ => hk9 q8 h8, fun _ h8 => nomatch h8⟩
  refine vx_catch (own := RL) (name := eA) (E := eA) hown (tableOf []) ⟨0, 9, 12, 13⟩ (tableOf []) htab (fun z9 h9 => nomatch h9) (by decide) (by decide) (mvW_moved (State.WarmedH.refl s) rfl hN.2.2.2) (mvW_moved (State.WarmedH.refl s) rfl (hT.1 (.castable eA eA) (by decide +kernel))) hc9 hv9 hcl9 ?_
  refine W.eq (g2 := F0 m 12 ls (.ref q9 :: [])) rfl ?_
  refine lv_astore_n hx hb dL_selected_12 rfl (lv_sub hl [] rfl) (Nat.le_of_ble_eq_true rfl) rfl (fun ls hl => ?_)
  refine lv_iconst (v := nI 1) hx hb dL_selected_13 (by decide) ?_
  exact h_iret hx hb hr hlocks hP1 hS1 dL_selected_14
set_option maxHeartbeats 4000000 in
set_option maxRecDepth 100000 in
theorem hl_name_r (l : Launch) (dC : Nat → ClassId) (dI : Nat → Nat → Nat) (cs : ClassId × ClassId) (c3 : ClassId) (a n : Nat → Nat) (f : Nat → Nat → Int32) (sz o : Nat) (z : Nat → Int64) (wr : va_W) (y0 : Int32) (r : Int32) (rm : Room) (hrc : rm.cells = 0) (hrs : rm.slots = 0) (hrf : rm.frames ≤ 5) (hrl : rm.locals ≤ 108) (hM : Met l yX3_name wsX3_name rm (rdPc (dC, dI) vwCl (wX cs a n f) (tyl cs) [.ref (a 0), .int y0]) (QcRead r) 0 0 (fun _ => False)) : Met l yL_name wsL_name ({ frames := 9, cells := 1, slots := 6, locals := 200 }) (hpPc (dC, dI) vwCl (wX cs a n f ++ ((o, .inl (c3, 1, .inr (.inl z))) :: wr)) (tyl3 cs c3) sz [.ref (a 0), .int y0, .ref o]) (wrQ (dC, dI) vwCl (wX cs a n f ++ ((o, .inl (c3, 1, .inr (.inl (vp_updL z (nI 0).toNatClampNeg r.toInt64)))) :: wr)) (some (.int (nI 0))) (va_A (wX cs a n f ++ ((o, .inl (c3, 1, .inr (.inl z))) :: wr)) sz)) 1 6 (va_A (wX cs a n f ++ ((o, .inl (c3, 1, .inr (.inl z))) :: wr)) sz) := by
  refine h_of (cc := cL_name) (maxL := 4) (ret := (some .int)) (own := RL) (by decide) rfl rfl (Nat.le_of_ble_eq_true rfl) ?_
  intro p e s m below meth c A hsz hAe hx hb hr hml hts hown hlocks htab hP hK hD hA hS hT hN ls hl
  have hl : lv_has ls 4 [(0, .ref (a 0)), (1, .int y0), (2, .ref o)] := hl
  have hPc : va_P (dC, dI) vwCl (wX cs a n f) s.heap := blkP (w0 := []) (wr := ((o, .inl (c3, 1, .inr (.inl z))) :: wr)) hP
  have hDc : va_D A (wX cs a n f) := blkD (w0 := []) (wr := ((o, .inl (c3, 1, .inr (.inl z))) :: wr)) hD
  have hKc : va_K (dC, dI) vwCl (tyl cs) s := hK.sub [0, 1] rfl
  obtain rfl : sz = s.heap.size := hsz.symm
  refine lv_aload_n hx hb dL_name_0 rfl (lv_at hl 2 rfl) ?_
  refine lv_iconst (v := nI 0) hx hb dL_name_1 (by decide) ?_
  refine lv_aload_n hx hb dL_name_2 rfl (lv_at hl 0 rfl) ?_
  refine lv_iload_n hx hb dL_name_3 rfl (lv_at hl 1 rfl) ?_
  refine W.callR (W.runV (As := [.int y0]) (rest := [.int (nI 0), .ref o]) ⟨hx, hb, hml, hown, hts⟩ hM (cwV 1 hts gL_name_X3_name rfl hrc hrs (by decide +kernel) ⟨by show rm.frames + 1 ≤ 9; omega, by show _ + rm.locals ≤ 200; omega⟩) (rd_preV (q := (RX3, TX3, 9)) hPc hKc 0 rfl rfl) rfl rfl hl.1 rfl (lv_room (Nat.le_of_ble_eq_true rfl)) dL_name_4 ⟨Nat.zero_le _, Nat.zero_le _⟩) ?_
  refine W.eq (g2 := F0 m 7 ls (.int r :: [.int (nI 0), .ref o])) rfl ?_
  refine lv_i2l hx hb dL_name_7 rfl ?_
  refine va_last hx hb hK hP hD hS 19 2 rfl rfl (vp_in_nI (by decide) (by decide)) dL_name_8 (fun H locs hP hD hS => ?_)
  have hP : va_P (dC, dI) vwCl (wX cs a n f ++ ((o, .inl (c3, 1, .inr (.inl (vp_updL z (nI 0).toNatClampNeg r.toInt64)))) :: wr)) H := hP
  refine lv_goto (tgt := 15) hx hb dL_name_9 (by decide) ?_
  refine lv_iconst (v := nI 0) hx hb dL_name_15 (by decide) ?_
  refine W.widen (k := 1) (n := 6) (Nat.zero_le _) (Nat.zero_le _) ?_
  exact h_iret hx hb hr hlocks hP hS dL_name_16
set_option maxHeartbeats 4000000 in
set_option maxRecDepth 100000 in
theorem hl_name_t1 (l : Launch) (dC : Nat → ClassId) (dI : Nat → Nat → Nat) (cs : ClassId × ClassId) (c3 : ClassId) (a n : Nat → Nat) (f : Nat → Nat → Int32) (sz o : Nat) (z : Nat → Int64) (wr : va_W) (y0 : Int32) (rm : Room) (hrc : rm.cells = 1) (hrs : rm.slots = 6) (hrf : rm.frames ≤ 7) (hrl : rm.locals ≤ 108) (hM : vx_Met l yX3_name wsX3_name rm (thPc (dC, dI) vwCl (wX cs a n f) (tyl cs) [.ref (a 0), .int y0]) noQ (thX eA) 1 6 (fun _ => False)) : Met l yL_name wsL_name ({ frames := 9, cells := 1, slots := 6, locals := 200 }) (hpPc (dC, dI) vwCl (wX cs a n f ++ ((o, .inl (c3, 1, .inr (.inl z))) :: wr)) (tyl3 cs c3) sz [.ref (a 0), .int y0, .ref o]) (wrQ (dC, dI) vwCl (wX cs a n f ++ ((o, .inl (c3, 1, .inr (.inl z))) :: wr)) (some (.int (nI 1))) (va_A (wX cs a n f ++ ((o, .inl (c3, 1, .inr (.inl z))) :: wr)) sz)) 1 6 (va_A (wX cs a n f ++ ((o, .inl (c3, 1, .inr (.inl z))) :: wr)) sz) := by
  refine h_of (cc := cL_name) (maxL := 4) (ret := (some .int)) (own := RL) (by decide) rfl rfl (Nat.le_of_ble_eq_true rfl) ?_
  intro p e s m below meth c A hsz hAe hx hb hr hml hts hown hlocks htab hP hK hD hA hS hT hN ls hl
  have hl : lv_has ls 4 [(0, .ref (a 0)), (1, .int y0), (2, .ref o)] := hl
  have hPc : va_P (dC, dI) vwCl (wX cs a n f) s.heap := blkP (w0 := []) (wr := ((o, .inl (c3, 1, .inr (.inl z))) :: wr)) hP
  have hDc : va_D A (wX cs a n f) := blkD (w0 := []) (wr := ((o, .inl (c3, 1, .inr (.inl z))) :: wr)) hD
  have hKc : va_K (dC, dI) vwCl (tyl cs) s := hK.sub [0, 1] rfl
  obtain rfl : sz = s.heap.size := hsz.symm
  refine lv_aload_n hx hb dL_name_0 rfl (lv_at hl 2 rfl) ?_
  refine lv_iconst (v := nI 0) hx hb dL_name_1 (by decide) ?_
  refine lv_aload_n hx hb dL_name_2 rfl (lv_at hl 0 rfl) ?_
  refine lv_iload_n hx hb dL_name_3 rfl (lv_at hl 1 rfl) ?_
  refine th_call (E0 := eA) (rest := [.int (nI 0), .ref o]) (vx_runV (As := [.int y0]) (rest := [.int (nI 0), .ref o]) ⟨hx, hb, hml, hown, hts⟩ hM (cwV 1 hts gL_name_X3_name rfl hrc hrs (by decide +kernel) ⟨by show rm.frames + 1 ≤ 9; omega, by show _ + rm.locals ≤ 200; omega⟩) (th_preV (q := (RX3, TX3, 9)) hPc hKc (fun U hU hW => thB_moved hW (fun a9 h9 => by rw [hU]) hT) 0 rfl rfl) rfl rfl hl.1 rfl (lv_room (Nat.le_of_ble_eq_true rfl)) dL_name_4 ⟨Nat.le_of_ble_eq_true rfl, Nat.le_of_ble_eq_true rfl⟩) (fun ce q9 H1 hz9 hk9 hc9 hv9 hcl9 => ?_)
  have hP1 : va_P (dC, dI) vwCl (wX cs a n f ++ ((o, .inl (c3, 1, .inr (.inl z))) :: wr)) H1 := fun k9 q8 hq8 => (hP k9 q8 hq8).kept (hk9 q8.1 (hP k9 q8 hq8).lt)
  have hS1 : va_S A s.heap H1 [] := ⟨hz9, fun q8 h8 _ => hk9 q8 h8, fun _ h8 => nomatch h8⟩
  refine vx_catch (own := RL) (name := eA) (E := eA) hown (tableOf []) ⟨0, 9, 12, 13⟩ (tableOf []) htab (fun z9 h9 => nomatch h9) (by decide) (by decide) (mvW_moved (State.WarmedH.refl s) rfl hN.2.2.2) (mvW_moved (State.WarmedH.refl s) rfl (hT.1 (.castable eA eA) (by decide +kernel))) hc9 hv9 hcl9 ?_
  refine W.eq (g2 := F0 m 12 ls (.ref q9 :: [])) rfl ?_
  refine lv_astore_n hx hb dL_name_12 rfl (lv_sub hl [] rfl) (Nat.le_of_ble_eq_true rfl) rfl (fun ls hl => ?_)
  refine lv_iconst (v := nI 1) hx hb dL_name_13 (by decide) ?_
  exact h_iret hx hb hr hlocks hP1 hS1 dL_name_14
set_option maxHeartbeats 4000000 in
set_option maxRecDepth 100000 in
theorem hl_sure_r (l : Launch) (dC : Nat → ClassId) (dI : Nat → Nat → Nat) (cs : ClassId × ClassId) (c3 : ClassId) (a n : Nat → Nat) (f : Nat → Nat → Int32) (sz o : Nat) (z : Nat → Int64) (wr : va_W) (y0 : Int32) (r : Int32) (rm : Room) (hrc : rm.cells = 0) (hrs : rm.slots = 0) (hrf : rm.frames ≤ 5) (hrl : rm.locals ≤ 108) (hM : Met l yX3_sure wsX3_sure rm (rdPc (dC, dI) vwCl (wX cs a n f) (tyl cs) [.ref (a 0), .int y0]) (QcRead r) 0 0 (fun _ => False)) : Met l yL_sure wsL_sure ({ frames := 9, cells := 1, slots := 6, locals := 200 }) (hpPc (dC, dI) vwCl (wX cs a n f ++ ((o, .inl (c3, 1, .inr (.inl z))) :: wr)) (tyl3 cs c3) sz [.ref (a 0), .int y0, .ref o]) (wrQ (dC, dI) vwCl (wX cs a n f ++ ((o, .inl (c3, 1, .inr (.inl (vp_updL z (nI 0).toNatClampNeg r.toInt64)))) :: wr)) (some (.int (nI 0))) (va_A (wX cs a n f ++ ((o, .inl (c3, 1, .inr (.inl z))) :: wr)) sz)) 1 6 (va_A (wX cs a n f ++ ((o, .inl (c3, 1, .inr (.inl z))) :: wr)) sz) := by
  refine h_of (cc := cL_sure) (maxL := 4) (ret := (some .int)) (own := RL) (by decide) rfl rfl (Nat.le_of_ble_eq_true rfl) ?_
  intro p e s m below meth c A hsz hAe hx hb hr hml hts hown hlocks htab hP hK hD hA hS hT hN ls hl
  have hl : lv_has ls 4 [(0, .ref (a 0)), (1, .int y0), (2, .ref o)] := hl
  have hPc : va_P (dC, dI) vwCl (wX cs a n f) s.heap := blkP (w0 := []) (wr := ((o, .inl (c3, 1, .inr (.inl z))) :: wr)) hP
  have hDc : va_D A (wX cs a n f) := blkD (w0 := []) (wr := ((o, .inl (c3, 1, .inr (.inl z))) :: wr)) hD
  have hKc : va_K (dC, dI) vwCl (tyl cs) s := hK.sub [0, 1] rfl
  obtain rfl : sz = s.heap.size := hsz.symm
  refine lv_aload_n hx hb dL_sure_0 rfl (lv_at hl 2 rfl) ?_
  refine lv_iconst (v := nI 0) hx hb dL_sure_1 (by decide) ?_
  refine lv_aload_n hx hb dL_sure_2 rfl (lv_at hl 0 rfl) ?_
  refine lv_iload_n hx hb dL_sure_3 rfl (lv_at hl 1 rfl) ?_
  refine W.callR (W.runV (As := [.int y0]) (rest := [.int (nI 0), .ref o]) ⟨hx, hb, hml, hown, hts⟩ hM (cwV 1 hts gL_sure_X3_sure rfl hrc hrs (by decide +kernel) ⟨by show rm.frames + 1 ≤ 9; omega, by show _ + rm.locals ≤ 200; omega⟩) (rd_preV (q := (RX3, TX3, 9)) hPc hKc 0 rfl rfl) rfl rfl hl.1 rfl (lv_room (Nat.le_of_ble_eq_true rfl)) dL_sure_4 ⟨Nat.zero_le _, Nat.zero_le _⟩) ?_
  refine W.eq (g2 := F0 m 7 ls (.int r :: [.int (nI 0), .ref o])) rfl ?_
  refine lv_i2l hx hb dL_sure_7 rfl ?_
  refine va_last hx hb hK hP hD hS 19 2 rfl rfl (vp_in_nI (by decide) (by decide)) dL_sure_8 (fun H locs hP hD hS => ?_)
  have hP : va_P (dC, dI) vwCl (wX cs a n f ++ ((o, .inl (c3, 1, .inr (.inl (vp_updL z (nI 0).toNatClampNeg r.toInt64)))) :: wr)) H := hP
  refine lv_goto (tgt := 15) hx hb dL_sure_9 (by decide) ?_
  refine lv_iconst (v := nI 0) hx hb dL_sure_15 (by decide) ?_
  refine W.widen (k := 1) (n := 6) (Nat.zero_le _) (Nat.zero_le _) ?_
  exact h_iret hx hb hr hlocks hP hS dL_sure_16
set_option maxHeartbeats 4000000 in
set_option maxRecDepth 100000 in
theorem hl_sure_t1 (l : Launch) (dC : Nat → ClassId) (dI : Nat → Nat → Nat) (cs : ClassId × ClassId) (c3 : ClassId) (a n : Nat → Nat) (f : Nat → Nat → Int32) (sz o : Nat) (z : Nat → Int64) (wr : va_W) (y0 : Int32) (rm : Room) (hrc : rm.cells = 1) (hrs : rm.slots = 6) (hrf : rm.frames ≤ 7) (hrl : rm.locals ≤ 108) (hM : vx_Met l yX3_sure wsX3_sure rm (thPc (dC, dI) vwCl (wX cs a n f) (tyl cs) [.ref (a 0), .int y0]) noQ (thX eA) 1 6 (fun _ => False)) : Met l yL_sure wsL_sure ({ frames := 9, cells := 1, slots := 6, locals := 200 }) (hpPc (dC, dI) vwCl (wX cs a n f ++ ((o, .inl (c3, 1, .inr (.inl z))) :: wr)) (tyl3 cs c3) sz [.ref (a 0), .int y0, .ref o]) (wrQ (dC, dI) vwCl (wX cs a n f ++ ((o, .inl (c3, 1, .inr (.inl z))) :: wr)) (some (.int (nI 1))) (va_A (wX cs a n f ++ ((o, .inl (c3, 1, .inr (.inl z))) :: wr)) sz)) 1 6 (va_A (wX cs a n f ++ ((o, .inl (c3, 1, .inr (.inl z))) :: wr)) sz) := by
  refine h_of (cc := cL_sure) (maxL := 4) (ret := (some .int)) (own := RL) (by decide) rfl rfl (Nat.le_of_ble_eq_true rfl) ?_
  intro p e s m below meth c A hsz hAe hx hb hr hml hts hown hlocks htab hP hK hD hA hS hT hN ls hl
  have hl : lv_has ls 4 [(0, .ref (a 0)), (1, .int y0), (2, .ref o)] := hl
  have hPc : va_P (dC, dI) vwCl (wX cs a n f) s.heap := blkP (w0 := []) (wr := ((o, .inl (c3, 1, .inr (.inl z))) :: wr)) hP
  have hDc : va_D A (wX cs a n f) := blkD (w0 := []) (wr := ((o, .inl (c3, 1, .inr (.inl z))) :: wr)) hD
  have hKc : va_K (dC, dI) vwCl (tyl cs) s := hK.sub [0, 1] rfl
  obtain rfl : sz = s.heap.size := hsz.symm
  refine lv_aload_n hx hb dL_sure_0 rfl (lv_at hl 2 rfl) ?_
  refine lv_iconst (v := nI 0) hx hb dL_sure_1 (by decide) ?_
  refine lv_aload_n hx hb dL_sure_2 rfl (lv_at hl 0 rfl) ?_
  refine lv_iload_n hx hb dL_sure_3 rfl (lv_at hl 1 rfl) ?_
  refine th_call (E0 := eA) (rest := [.int (nI 0), .ref o]) (vx_runV (As := [.int y0]) (rest := [.int (nI 0), .ref o]) ⟨hx, hb, hml, hown, hts⟩ hM (cwV 1 hts gL_sure_X3_sure rfl hrc hrs (by decide +kernel) ⟨by show rm.frames + 1 ≤ 9; omega, by show _ + rm.locals ≤ 200; omega⟩) (th_preV (q := (RX3, TX3, 9)) hPc hKc (fun U hU hW => thB_moved hW (fun a9 h9 => by rw [hU]) hT) 0 rfl rfl) rfl rfl hl.1 rfl (lv_room (Nat.le_of_ble_eq_true rfl)) dL_sure_4 ⟨Nat.le_of_ble_eq_true rfl, Nat.le_of_ble_eq_true rfl⟩) (fun ce q9 H1 hz9 hk9 hc9 hv9 hcl9 => ?_)
  have hP1 : va_P (dC, dI) vwCl (wX cs a n f ++ ((o, .inl (c3, 1, .inr (.inl z))) :: wr)) H1 := fun k9 q8 hq8 => (hP k9 q8 hq8).kept (hk9 q8.1 (hP k9 q8 hq8).lt)
  have hS1 : va_S A s.heap H1 [] := ⟨hz9, fun q8 h8 _ => hk9 q8 h8, fun _ h8 => nomatch h8⟩
  refine vx_catch (own := RL) (name := eA) (E := eA) hown (tableOf []) ⟨0, 9, 12, 13⟩ (tableOf []) htab (fun z9 h9 => nomatch h9) (by decide) (by decide) (mvW_moved (State.WarmedH.refl s) rfl hN.2.2.2) (mvW_moved (State.WarmedH.refl s) rfl (hT.1 (.castable eA eA) (by decide +kernel))) hc9 hv9 hcl9 ?_
  refine W.eq (g2 := F0 m 12 ls (.ref q9 :: [])) rfl ?_
  refine lv_astore_n hx hb dL_sure_12 rfl (lv_sub hl [] rfl) (Nat.le_of_ble_eq_true rfl) rfl (fun ls hl => ?_)
  refine lv_iconst (v := nI 1) hx hb dL_sure_13 (by decide) ?_
  exact h_iret hx hb hr hlocks hP1 hS1 dL_sure_14
set_option maxHeartbeats 4000000 in
set_option maxRecDepth 100000 in
theorem hl_shares_r (l : Launch) (dC : Nat → ClassId) (dI : Nat → Nat → Nat) (cs : ClassId × ClassId) (c3 : ClassId) (a n : Nat → Nat) (f : Nat → Nat → Int32) (sz o : Nat) (z : Nat → Int64) (wr : va_W) (y0 : Int32) (r : Int32) (rm : Room) (hrc : rm.cells = 0) (hrs : rm.slots = 0) (hrf : rm.frames ≤ 5) (hrl : rm.locals ≤ 108) (hM : Met l yX3_shares wsX3_shares rm (rdPc (dC, dI) vwCl (wX cs a n f) (tyl cs) [.ref (a 0), .int y0]) (QcRead r) 0 0 (fun _ => False)) : Met l yL_shares wsL_shares ({ frames := 9, cells := 1, slots := 6, locals := 200 }) (hpPc (dC, dI) vwCl (wX cs a n f ++ ((o, .inl (c3, 1, .inr (.inl z))) :: wr)) (tyl3 cs c3) sz [.ref (a 0), .int y0, .ref o]) (wrQ (dC, dI) vwCl (wX cs a n f ++ ((o, .inl (c3, 1, .inr (.inl (vp_updL z (nI 0).toNatClampNeg r.toInt64)))) :: wr)) (some (.int (nI 0))) (va_A (wX cs a n f ++ ((o, .inl (c3, 1, .inr (.inl z))) :: wr)) sz)) 1 6 (va_A (wX cs a n f ++ ((o, .inl (c3, 1, .inr (.inl z))) :: wr)) sz) := by
  refine h_of (cc := cL_shares) (maxL := 4) (ret := (some .int)) (own := RL) (by decide) rfl rfl (Nat.le_of_ble_eq_true rfl) ?_
  intro p e s m below meth c A hsz hAe hx hb hr hml hts hown hlocks htab hP hK hD hA hS hT hN ls hl
  have hl : lv_has ls 4 [(0, .ref (a 0)), (1, .int y0), (2, .ref o)] := hl
  have hPc : va_P (dC, dI) vwCl (wX cs a n f) s.heap := blkP (w0 := []) (wr := ((o, .inl (c3, 1, .inr (.inl z))) :: wr)) hP
  have hDc : va_D A (wX cs a n f) := blkD (w0 := []) (wr := ((o, .inl (c3, 1, .inr (.inl z))) :: wr)) hD
  have hKc : va_K (dC, dI) vwCl (tyl cs) s := hK.sub [0, 1] rfl
  obtain rfl : sz = s.heap.size := hsz.symm
  refine lv_aload_n hx hb dL_shares_0 rfl (lv_at hl 2 rfl) ?_
  refine lv_iconst (v := nI 0) hx hb dL_shares_1 (by decide) ?_
  refine lv_aload_n hx hb dL_shares_2 rfl (lv_at hl 0 rfl) ?_
  refine lv_iload_n hx hb dL_shares_3 rfl (lv_at hl 1 rfl) ?_
  refine W.callR (W.runV (As := [.int y0]) (rest := [.int (nI 0), .ref o]) ⟨hx, hb, hml, hown, hts⟩ hM (cwV 1 hts gL_shares_X3_shares rfl hrc hrs (by decide +kernel) ⟨by show rm.frames + 1 ≤ 9; omega, by show _ + rm.locals ≤ 200; omega⟩) (rd_preV (q := (RX3, TX3, 9)) hPc hKc 0 rfl rfl) rfl rfl hl.1 rfl (lv_room (Nat.le_of_ble_eq_true rfl)) dL_shares_4 ⟨Nat.zero_le _, Nat.zero_le _⟩) ?_
  refine W.eq (g2 := F0 m 7 ls (.int r :: [.int (nI 0), .ref o])) rfl ?_
  refine lv_i2l hx hb dL_shares_7 rfl ?_
  refine va_last hx hb hK hP hD hS 19 2 rfl rfl (vp_in_nI (by decide) (by decide)) dL_shares_8 (fun H locs hP hD hS => ?_)
  have hP : va_P (dC, dI) vwCl (wX cs a n f ++ ((o, .inl (c3, 1, .inr (.inl (vp_updL z (nI 0).toNatClampNeg r.toInt64)))) :: wr)) H := hP
  refine lv_goto (tgt := 15) hx hb dL_shares_9 (by decide) ?_
  refine lv_iconst (v := nI 0) hx hb dL_shares_15 (by decide) ?_
  refine W.widen (k := 1) (n := 6) (Nat.zero_le _) (Nat.zero_le _) ?_
  exact h_iret hx hb hr hlocks hP hS dL_shares_16
set_option maxHeartbeats 4000000 in
set_option maxRecDepth 100000 in
theorem hl_shares_t1 (l : Launch) (dC : Nat → ClassId) (dI : Nat → Nat → Nat) (cs : ClassId × ClassId) (c3 : ClassId) (a n : Nat → Nat) (f : Nat → Nat → Int32) (sz o : Nat) (z : Nat → Int64) (wr : va_W) (y0 : Int32) (rm : Room) (hrc : rm.cells = 1) (hrs : rm.slots = 6) (hrf : rm.frames ≤ 7) (hrl : rm.locals ≤ 108) (hM : vx_Met l yX3_shares wsX3_shares rm (thPc (dC, dI) vwCl (wX cs a n f) (tyl cs) [.ref (a 0), .int y0]) noQ (thX eA) 1 6 (fun _ => False)) : Met l yL_shares wsL_shares ({ frames := 9, cells := 1, slots := 6, locals := 200 }) (hpPc (dC, dI) vwCl (wX cs a n f ++ ((o, .inl (c3, 1, .inr (.inl z))) :: wr)) (tyl3 cs c3) sz [.ref (a 0), .int y0, .ref o]) (wrQ (dC, dI) vwCl (wX cs a n f ++ ((o, .inl (c3, 1, .inr (.inl z))) :: wr)) (some (.int (nI 1))) (va_A (wX cs a n f ++ ((o, .inl (c3, 1, .inr (.inl z))) :: wr)) sz)) 1 6 (va_A (wX cs a n f ++ ((o, .inl (c3, 1, .inr (.inl z))) :: wr)) sz) := by
  refine h_of (cc := cL_shares) (maxL := 4) (ret := (some .int)) (own := RL) (by decide) rfl rfl (Nat.le_of_ble_eq_true rfl) ?_
  intro p e s m below meth c A hsz hAe hx hb hr hml hts hown hlocks htab hP hK hD hA hS hT hN ls hl
  have hl : lv_has ls 4 [(0, .ref (a 0)), (1, .int y0), (2, .ref o)] := hl
  have hPc : va_P (dC, dI) vwCl (wX cs a n f) s.heap := blkP (w0 := []) (wr := ((o, .inl (c3, 1, .inr (.inl z))) :: wr)) hP
  have hDc : va_D A (wX cs a n f) := blkD (w0 := []) (wr := ((o, .inl (c3, 1, .inr (.inl z))) :: wr)) hD
  have hKc : va_K (dC, dI) vwCl (tyl cs) s := hK.sub [0, 1] rfl
  obtain rfl : sz = s.heap.size := hsz.symm
  refine lv_aload_n hx hb dL_shares_0 rfl (lv_at hl 2 rfl) ?_
  refine lv_iconst (v := nI 0) hx hb dL_shares_1 (by decide) ?_
  refine lv_aload_n hx hb dL_shares_2 rfl (lv_at hl 0 rfl) ?_
  refine lv_iload_n hx hb dL_shares_3 rfl (lv_at hl 1 rfl) ?_
  refine th_call (E0 := eA) (rest := [.int (nI 0), .ref o]) (vx_runV (As := [.int y0]) (rest := [.int (nI 0), .ref o]) ⟨hx, hb, hml, hown, hts⟩ hM (cwV 1 hts gL_shares_X3_shares rfl hrc hrs (by decide +kernel) ⟨by show rm.frames + 1 ≤ 9; omega, by show _ + rm.locals ≤ 200; omega⟩) (th_preV (q := (RX3, TX3, 9)) hPc hKc (fun U hU hW => thB_moved hW (fun a9 h9 => by rw [hU]) hT) 0 rfl rfl) rfl rfl hl.1 rfl (lv_room (Nat.le_of_ble_eq_true rfl)) dL_shares_4 ⟨Nat.le_of_ble_eq_true rfl, Nat.le_of_ble_eq_true rfl⟩) (fun ce q9 H1 hz9 hk9 hc9 hv9 hcl9 => ?_)
  have hP1 : va_P (dC, dI) vwCl (wX cs a n f ++ ((o, .inl (c3, 1, .inr (.inl z))) :: wr)) H1 := fun k9 q8 hq8 => (hP k9 q8 hq8).kept (hk9 q8.1 (hP k9 q8 hq8).lt)
  have hS1 : va_S A s.heap H1 [] := ⟨hz9, fun q8 h8 _ => hk9 q8 h8, fun _ h8 => nomatch h8⟩
  refine vx_catch (own := RL) (name := eA) (E := eA) hown (tableOf []) ⟨0, 9, 12, 13⟩ (tableOf []) htab (fun z9 h9 => nomatch h9) (by decide) (by decide) (mvW_moved (State.WarmedH.refl s) rfl hN.2.2.2) (mvW_moved (State.WarmedH.refl s) rfl (hT.1 (.castable eA eA) (by decide +kernel))) hc9 hv9 hcl9 ?_
  refine W.eq (g2 := F0 m 12 ls (.ref q9 :: [])) rfl ?_
  refine lv_astore_n hx hb dL_shares_12 rfl (lv_sub hl [] rfl) (Nat.le_of_ble_eq_true rfl) rfl (fun ls hl => ?_)
  refine lv_iconst (v := nI 1) hx hb dL_shares_13 (by decide) ?_
  exact h_iret hx hb hr hlocks hP1 hS1 dL_shares_14
set_option maxHeartbeats 4000000 in
set_option maxRecDepth 100000 in
theorem hl_queue_r (l : Launch) (dC : Nat → ClassId) (dI : Nat → Nat → Nat) (cs : ClassId × ClassId) (c3 : ClassId) (a n : Nat → Nat) (f : Nat → Nat → Int32) (sz o : Nat) (z : Nat → Int64) (wr : va_W) (y0 : Int32) (r : Int32) (rm : Room) (hrc : rm.cells = 0) (hrs : rm.slots = 0) (hrf : rm.frames ≤ 5) (hrl : rm.locals ≤ 108) (hM : Met l yX3_queue wsX3_queue rm (rdPc (dC, dI) vwCl (wX cs a n f) (tyl cs) [.ref (a 0), .int y0]) (QcRead r) 0 0 (fun _ => False)) : Met l yL_queue wsL_queue ({ frames := 9, cells := 1, slots := 6, locals := 200 }) (hpPc (dC, dI) vwCl (wX cs a n f ++ ((o, .inl (c3, 1, .inr (.inl z))) :: wr)) (tyl3 cs c3) sz [.ref (a 0), .int y0, .ref o]) (wrQ (dC, dI) vwCl (wX cs a n f ++ ((o, .inl (c3, 1, .inr (.inl (vp_updL z (nI 0).toNatClampNeg r.toInt64)))) :: wr)) (some (.int (nI 0))) (va_A (wX cs a n f ++ ((o, .inl (c3, 1, .inr (.inl z))) :: wr)) sz)) 1 6 (va_A (wX cs a n f ++ ((o, .inl (c3, 1, .inr (.inl z))) :: wr)) sz) := by
  refine h_of (cc := cL_queue) (maxL := 4) (ret := (some .int)) (own := RL) (by decide) rfl rfl (Nat.le_of_ble_eq_true rfl) ?_
  intro p e s m below meth c A hsz hAe hx hb hr hml hts hown hlocks htab hP hK hD hA hS hT hN ls hl
  have hl : lv_has ls 4 [(0, .ref (a 0)), (1, .int y0), (2, .ref o)] := hl
  have hPc : va_P (dC, dI) vwCl (wX cs a n f) s.heap := blkP (w0 := []) (wr := ((o, .inl (c3, 1, .inr (.inl z))) :: wr)) hP
  have hDc : va_D A (wX cs a n f) := blkD (w0 := []) (wr := ((o, .inl (c3, 1, .inr (.inl z))) :: wr)) hD
  have hKc : va_K (dC, dI) vwCl (tyl cs) s := hK.sub [0, 1] rfl
  obtain rfl : sz = s.heap.size := hsz.symm
  refine lv_aload_n hx hb dL_queue_0 rfl (lv_at hl 2 rfl) ?_
  refine lv_iconst (v := nI 0) hx hb dL_queue_1 (by decide) ?_
  refine lv_aload_n hx hb dL_queue_2 rfl (lv_at hl 0 rfl) ?_
  refine lv_iload_n hx hb dL_queue_3 rfl (lv_at hl 1 rfl) ?_
  refine W.callR (W.runV (As := [.int y0]) (rest := [.int (nI 0), .ref o]) ⟨hx, hb, hml, hown, hts⟩ hM (cwV 1 hts gL_queue_X3_queue rfl hrc hrs (by decide +kernel) ⟨by show rm.frames + 1 ≤ 9; omega, by show _ + rm.locals ≤ 200; omega⟩) (rd_preV (q := (RX3, TX3, 9)) hPc hKc 0 rfl rfl) rfl rfl hl.1 rfl (lv_room (Nat.le_of_ble_eq_true rfl)) dL_queue_4 ⟨Nat.zero_le _, Nat.zero_le _⟩) ?_
  refine W.eq (g2 := F0 m 7 ls (.int r :: [.int (nI 0), .ref o])) rfl ?_
  refine lv_i2l hx hb dL_queue_7 rfl ?_
  refine va_last hx hb hK hP hD hS 19 2 rfl rfl (vp_in_nI (by decide) (by decide)) dL_queue_8 (fun H locs hP hD hS => ?_)
  have hP : va_P (dC, dI) vwCl (wX cs a n f ++ ((o, .inl (c3, 1, .inr (.inl (vp_updL z (nI 0).toNatClampNeg r.toInt64)))) :: wr)) H := hP
  refine lv_goto (tgt := 15) hx hb dL_queue_9 (by decide) ?_
  refine lv_iconst (v := nI 0) hx hb dL_queue_15 (by decide) ?_
  refine W.widen (k := 1) (n := 6) (Nat.zero_le _) (Nat.zero_le _) ?_
  exact h_iret hx hb hr hlocks hP hS dL_queue_16
set_option maxHeartbeats 4000000 in
set_option maxRecDepth 100000 in
theorem hl_queue_t1 (l : Launch) (dC : Nat → ClassId) (dI : Nat → Nat → Nat) (cs : ClassId × ClassId) (c3 : ClassId) (a n : Nat → Nat) (f : Nat → Nat → Int32) (sz o : Nat) (z : Nat → Int64) (wr : va_W) (y0 : Int32) (rm : Room) (hrc : rm.cells = 1) (hrs : rm.slots = 6) (hrf : rm.frames ≤ 7) (hrl : rm.locals ≤ 108) (hM : vx_Met l yX3_queue wsX3_queue rm (thPc (dC, dI) vwCl (wX cs a n f) (tyl cs) [.ref (a 0), .int y0]) noQ (thX eG) 1 6 (fun _ => False)) : Met l yL_queue wsL_queue ({ frames := 9, cells := 1, slots := 6, locals := 200 }) (hpPc (dC, dI) vwCl (wX cs a n f ++ ((o, .inl (c3, 1, .inr (.inl z))) :: wr)) (tyl3 cs c3) sz [.ref (a 0), .int y0, .ref o]) (wrQ (dC, dI) vwCl (wX cs a n f ++ ((o, .inl (c3, 1, .inr (.inl z))) :: wr)) (some (.int (nI 1))) (va_A (wX cs a n f ++ ((o, .inl (c3, 1, .inr (.inl z))) :: wr)) sz)) 1 6 (va_A (wX cs a n f ++ ((o, .inl (c3, 1, .inr (.inl z))) :: wr)) sz) := by
  refine h_of (cc := cL_queue) (maxL := 4) (ret := (some .int)) (own := RL) (by decide) rfl rfl (Nat.le_of_ble_eq_true rfl) ?_
  intro p e s m below meth c A hsz hAe hx hb hr hml hts hown hlocks htab hP hK hD hA hS hT hN ls hl
  have hl : lv_has ls 4 [(0, .ref (a 0)), (1, .int y0), (2, .ref o)] := hl
  have hPc : va_P (dC, dI) vwCl (wX cs a n f) s.heap := blkP (w0 := []) (wr := ((o, .inl (c3, 1, .inr (.inl z))) :: wr)) hP
  have hDc : va_D A (wX cs a n f) := blkD (w0 := []) (wr := ((o, .inl (c3, 1, .inr (.inl z))) :: wr)) hD
  have hKc : va_K (dC, dI) vwCl (tyl cs) s := hK.sub [0, 1] rfl
  obtain rfl : sz = s.heap.size := hsz.symm
  refine lv_aload_n hx hb dL_queue_0 rfl (lv_at hl 2 rfl) ?_
  refine lv_iconst (v := nI 0) hx hb dL_queue_1 (by decide) ?_
  refine lv_aload_n hx hb dL_queue_2 rfl (lv_at hl 0 rfl) ?_
  refine lv_iload_n hx hb dL_queue_3 rfl (lv_at hl 1 rfl) ?_
  refine th_call (E0 := eG) (rest := [.int (nI 0), .ref o]) (vx_runV (As := [.int y0]) (rest := [.int (nI 0), .ref o]) ⟨hx, hb, hml, hown, hts⟩ hM (cwV 1 hts gL_queue_X3_queue rfl hrc hrs (by decide +kernel) ⟨by show rm.frames + 1 ≤ 9; omega, by show _ + rm.locals ≤ 200; omega⟩) (th_preV (q := (RX3, TX3, 9)) hPc hKc (fun U hU hW => thB_moved hW (fun a9 h9 => by rw [hU]) hT) 0 rfl rfl) rfl rfl hl.1 rfl (lv_room (Nat.le_of_ble_eq_true rfl)) dL_queue_4 ⟨Nat.le_of_ble_eq_true rfl, Nat.le_of_ble_eq_true rfl⟩) (fun ce q9 H1 hz9 hk9 hc9 hv9 hcl9 => ?_)
  have hP1 : va_P (dC, dI) vwCl (wX cs a n f ++ ((o, .inl (c3, 1, .inr (.inl z))) :: wr)) H1 := fun k9 q8 hq8 => (hP k9 q8 hq8).kept (hk9 q8.1 (hP k9 q8 hq8).lt)
  have hS1 : va_S A s.heap H1 [] := ⟨hz9, fun q8 h8 _ => hk9 q8 h8, fun _ h8 => nomatch h8⟩
  refine vx_catch (own := RL) (name := eG) (E := eG) hown (tableOf []) ⟨0, 9, 12, 24⟩ (tableOf []) htab (fun z9 h9 => nomatch h9) (by decide) (by decide) (hts (.classLink RL 24 eG) (by decide +kernel)) (mvW_moved (State.WarmedH.refl s) rfl (hT.2.2.1 (.castable eG eG) (by decide +kernel))) hc9 hv9 hcl9 ?_
  refine W.eq (g2 := F0 m 12 ls (.ref q9 :: [])) rfl ?_
  refine lv_astore_n hx hb dL_queue_12 rfl (lv_sub hl [] rfl) (Nat.le_of_ble_eq_true rfl) rfl (fun ls hl => ?_)
  refine lv_iconst (v := nI 1) hx hb dL_queue_13 (by decide) ?_
  exact h_iret hx hb hr hlocks hP1 hS1 dL_queue_14
set_option maxHeartbeats 4000000 in
set_option maxRecDepth 100000 in
theorem hl_row_r (l : Launch) (dC : Nat → ClassId) (dI : Nat → Nat → Nat) (cs : ClassId × ClassId) (c3 : ClassId) (a n : Nat → Nat) (f : Nat → Nat → Int32) (sz o : Nat) (z : Nat → Int64) (wr : va_W) (y0 y1 : Int32) (r : Int32) (rm : Room) (hrc : rm.cells = 0) (hrs : rm.slots = 0) (hrf : rm.frames ≤ 5) (hrl : rm.locals ≤ 108) (hM : Met l yX3_row wsX3_row rm (rdPc (dC, dI) vwCl (wX cs a n f) (tyl cs) [.ref (a 0), .int y0, .int y1]) (QcRead r) 0 0 (fun _ => False)) : Met l yL_row wsL_row ({ frames := 9, cells := 1, slots := 6, locals := 200 }) (hpPc (dC, dI) vwCl (wX cs a n f ++ ((o, .inl (c3, 1, .inr (.inl z))) :: wr)) (tyl3 cs c3) sz [.ref (a 0), .int y0, .int y1, .ref o]) (wrQ (dC, dI) vwCl (wX cs a n f ++ ((o, .inl (c3, 1, .inr (.inl (vp_updL z (nI 0).toNatClampNeg r.toInt64)))) :: wr)) (some (.int (nI 0))) (va_A (wX cs a n f ++ ((o, .inl (c3, 1, .inr (.inl z))) :: wr)) sz)) 1 6 (va_A (wX cs a n f ++ ((o, .inl (c3, 1, .inr (.inl z))) :: wr)) sz) := by
  refine h_of (cc := cL_row) (maxL := 5) (ret := (some .int)) (own := RL) (by decide) rfl rfl (Nat.le_of_ble_eq_true rfl) ?_
  intro p e s m below meth c A hsz hAe hx hb hr hml hts hown hlocks htab hP hK hD hA hS hT hN ls hl
  have hl : lv_has ls 5 [(0, .ref (a 0)), (1, .int y0), (2, .int y1), (3, .ref o)] := hl
  have hPc : va_P (dC, dI) vwCl (wX cs a n f) s.heap := blkP (w0 := []) (wr := ((o, .inl (c3, 1, .inr (.inl z))) :: wr)) hP
  have hDc : va_D A (wX cs a n f) := blkD (w0 := []) (wr := ((o, .inl (c3, 1, .inr (.inl z))) :: wr)) hD
  have hKc : va_K (dC, dI) vwCl (tyl cs) s := hK.sub [0, 1] rfl
  obtain rfl : sz = s.heap.size := hsz.symm
  refine lv_aload_n hx hb dL_row_0 rfl (lv_at hl 3 rfl) ?_
  refine lv_iconst (v := nI 0) hx hb dL_row_1 (by decide) ?_
  refine lv_aload_n hx hb dL_row_2 rfl (lv_at hl 0 rfl) ?_
  refine lv_iload_n hx hb dL_row_3 rfl (lv_at hl 1 rfl) ?_
  refine lv_iload_n hx hb dL_row_4 rfl (lv_at hl 2 rfl) ?_
  refine W.callR (W.runV (As := [.int y0, .int y1]) (rest := [.int (nI 0), .ref o]) ⟨hx, hb, hml, hown, hts⟩ hM (cwV 2 hts gL_row_X3_row rfl hrc hrs (by decide +kernel) ⟨by show rm.frames + 1 ≤ 9; omega, by show _ + rm.locals ≤ 200; omega⟩) (rd_preV (q := (RX3, TX3, 9)) hPc hKc 0 rfl rfl) rfl rfl hl.1 rfl (lv_room (Nat.le_of_ble_eq_true rfl)) dL_row_5 ⟨Nat.zero_le _, Nat.zero_le _⟩) ?_
  refine W.eq (g2 := F0 m 8 ls (.int r :: [.int (nI 0), .ref o])) rfl ?_
  refine lv_i2l hx hb dL_row_8 rfl ?_
  refine va_last hx hb hK hP hD hS 19 2 rfl rfl (vp_in_nI (by decide) (by decide)) dL_row_9 (fun H locs hP hD hS => ?_)
  have hP : va_P (dC, dI) vwCl (wX cs a n f ++ ((o, .inl (c3, 1, .inr (.inl (vp_updL z (nI 0).toNatClampNeg r.toInt64)))) :: wr)) H := hP
  refine lv_goto (tgt := 25) hx hb dL_row_10 (by decide) ?_
  refine lv_iconst (v := nI 0) hx hb dL_row_25 (by decide) ?_
  refine W.widen (k := 1) (n := 6) (Nat.zero_le _) (Nat.zero_le _) ?_
  exact h_iret hx hb hr hlocks hP hS dL_row_26
set_option maxHeartbeats 4000000 in
set_option maxRecDepth 100000 in
theorem hl_row_t1 (l : Launch) (dC : Nat → ClassId) (dI : Nat → Nat → Nat) (cs : ClassId × ClassId) (c3 : ClassId) (a n : Nat → Nat) (f : Nat → Nat → Int32) (sz o : Nat) (z : Nat → Int64) (wr : va_W) (y0 y1 : Int32) (rm : Room) (hrc : rm.cells = 1) (hrs : rm.slots = 6) (hrf : rm.frames ≤ 7) (hrl : rm.locals ≤ 108) (hM : vx_Met l yX3_row wsX3_row rm (thPc (dC, dI) vwCl (wX cs a n f) (tyl cs) [.ref (a 0), .int y0, .int y1]) noQ (thX eA) 1 6 (fun _ => False)) : Met l yL_row wsL_row ({ frames := 9, cells := 1, slots := 6, locals := 200 }) (hpPc (dC, dI) vwCl (wX cs a n f ++ ((o, .inl (c3, 1, .inr (.inl z))) :: wr)) (tyl3 cs c3) sz [.ref (a 0), .int y0, .int y1, .ref o]) (wrQ (dC, dI) vwCl (wX cs a n f ++ ((o, .inl (c3, 1, .inr (.inl z))) :: wr)) (some (.int (nI 1))) (va_A (wX cs a n f ++ ((o, .inl (c3, 1, .inr (.inl z))) :: wr)) sz)) 1 6 (va_A (wX cs a n f ++ ((o, .inl (c3, 1, .inr (.inl z))) :: wr)) sz) := by
  refine h_of (cc := cL_row) (maxL := 5) (ret := (some .int)) (own := RL) (by decide) rfl rfl (Nat.le_of_ble_eq_true rfl) ?_
  intro p e s m below meth c A hsz hAe hx hb hr hml hts hown hlocks htab hP hK hD hA hS hT hN ls hl
  have hl : lv_has ls 5 [(0, .ref (a 0)), (1, .int y0), (2, .int y1), (3, .ref o)] := hl
  have hPc : va_P (dC, dI) vwCl (wX cs a n f) s.heap := blkP (w0 := []) (wr := ((o, .inl (c3, 1, .inr (.inl z))) :: wr)) hP
  have hDc : va_D A (wX cs a n f) := blkD (w0 := []) (wr := ((o, .inl (c3, 1, .inr (.inl z))) :: wr)) hD
  have hKc : va_K (dC, dI) vwCl (tyl cs) s := hK.sub [0, 1] rfl
  obtain rfl : sz = s.heap.size := hsz.symm
  refine lv_aload_n hx hb dL_row_0 rfl (lv_at hl 3 rfl) ?_
  refine lv_iconst (v := nI 0) hx hb dL_row_1 (by decide) ?_
  refine lv_aload_n hx hb dL_row_2 rfl (lv_at hl 0 rfl) ?_
  refine lv_iload_n hx hb dL_row_3 rfl (lv_at hl 1 rfl) ?_
  refine lv_iload_n hx hb dL_row_4 rfl (lv_at hl 2 rfl) ?_
  refine th_call (E0 := eA) (rest := [.int (nI 0), .ref o]) (vx_runV (As := [.int y0, .int y1]) (rest := [.int (nI 0), .ref o]) ⟨hx, hb, hml, hown, hts⟩ hM (cwV 2 hts gL_row_X3_row rfl hrc hrs (by decide +kernel) ⟨by show rm.frames + 1 ≤ 9; omega, by show _ + rm.locals ≤ 200; omega⟩) (th_preV (q := (RX3, TX3, 9)) hPc hKc (fun U hU hW => thB_moved hW (fun a9 h9 => by rw [hU]) hT) 0 rfl rfl) rfl rfl hl.1 rfl (lv_room (Nat.le_of_ble_eq_true rfl)) dL_row_5 ⟨Nat.le_of_ble_eq_true rfl, Nat.le_of_ble_eq_true rfl⟩) (fun ce q9 H1 hz9 hk9 hc9 hv9 hcl9 => ?_)
  have hP1 : va_P (dC, dI) vwCl (wX cs a n f ++ ((o, .inl (c3, 1, .inr (.inl z))) :: wr)) H1 := fun k9 q8 hq8 => (hP k9 q8 hq8).kept (hk9 q8.1 (hP k9 q8 hq8).lt)
  have hS1 : va_S A s.heap H1 [] := ⟨hz9, fun q8 h8 _ => hk9 q8 h8, fun _ h8 => nomatch h8⟩
  refine vx_catch (own := RL) (name := eA) (E := eA) hown (tableOf []) ⟨0, 10, 13, 13⟩ (tableOf [(0, 10, 17, 22), (0, 10, 21, 24)]) htab (fun z9 h9 => nomatch h9) (by decide) (by decide) (mvW_moved (State.WarmedH.refl s) rfl hN.2.2.2) (mvW_moved (State.WarmedH.refl s) rfl (hT.1 (.castable eA eA) (by decide +kernel))) hc9 hv9 hcl9 ?_
  refine W.eq (g2 := F0 m 13 ls (.ref q9 :: [])) rfl ?_
  refine lv_astore hx hb dL_row_13 (lv_sub hl [] rfl) (Nat.le_of_ble_eq_true rfl) rfl (fun ls hl => ?_)
  refine lv_iconst (v := nI 1) hx hb dL_row_15 (by decide) ?_
  exact h_iret hx hb hr hlocks hP1 hS1 dL_row_16
set_option maxHeartbeats 4000000 in
set_option maxRecDepth 100000 in
theorem hl_row_t2 (l : Launch) (dC : Nat → ClassId) (dI : Nat → Nat → Nat) (cs : ClassId × ClassId) (c3 : ClassId) (a n : Nat → Nat) (f : Nat → Nat → Int32) (sz o : Nat) (z : Nat → Int64) (wr : va_W) (y0 y1 : Int32) (rm : Room) (hrc : rm.cells = 1) (hrs : rm.slots = 6) (hrf : rm.frames ≤ 7) (hrl : rm.locals ≤ 108) (hM : vx_Met l yX3_row wsX3_row rm (thPc (dC, dI) vwCl (wX cs a n f) (tyl cs) [.ref (a 0), .int y0, .int y1]) noQ (thX eS) 1 6 (fun _ => False)) : Met l yL_row wsL_row ({ frames := 9, cells := 1, slots := 6, locals := 200 }) (hpPc (dC, dI) vwCl (wX cs a n f ++ ((o, .inl (c3, 1, .inr (.inl z))) :: wr)) (tyl3 cs c3) sz [.ref (a 0), .int y0, .int y1, .ref o]) (wrQ (dC, dI) vwCl (wX cs a n f ++ ((o, .inl (c3, 1, .inr (.inl z))) :: wr)) (some (.int (nI 2))) (va_A (wX cs a n f ++ ((o, .inl (c3, 1, .inr (.inl z))) :: wr)) sz)) 1 6 (va_A (wX cs a n f ++ ((o, .inl (c3, 1, .inr (.inl z))) :: wr)) sz) := by
  refine h_of (cc := cL_row) (maxL := 5) (ret := (some .int)) (own := RL) (by decide) rfl rfl (Nat.le_of_ble_eq_true rfl) ?_
  intro p e s m below meth c A hsz hAe hx hb hr hml hts hown hlocks htab hP hK hD hA hS hT hN ls hl
  have hl : lv_has ls 5 [(0, .ref (a 0)), (1, .int y0), (2, .int y1), (3, .ref o)] := hl
  have hPc : va_P (dC, dI) vwCl (wX cs a n f) s.heap := blkP (w0 := []) (wr := ((o, .inl (c3, 1, .inr (.inl z))) :: wr)) hP
  have hDc : va_D A (wX cs a n f) := blkD (w0 := []) (wr := ((o, .inl (c3, 1, .inr (.inl z))) :: wr)) hD
  have hKc : va_K (dC, dI) vwCl (tyl cs) s := hK.sub [0, 1] rfl
  obtain rfl : sz = s.heap.size := hsz.symm
  refine lv_aload_n hx hb dL_row_0 rfl (lv_at hl 3 rfl) ?_
  refine lv_iconst (v := nI 0) hx hb dL_row_1 (by decide) ?_
  refine lv_aload_n hx hb dL_row_2 rfl (lv_at hl 0 rfl) ?_
  refine lv_iload_n hx hb dL_row_3 rfl (lv_at hl 1 rfl) ?_
  refine lv_iload_n hx hb dL_row_4 rfl (lv_at hl 2 rfl) ?_
  refine th_call (E0 := eS) (rest := [.int (nI 0), .ref o]) (vx_runV (As := [.int y0, .int y1]) (rest := [.int (nI 0), .ref o]) ⟨hx, hb, hml, hown, hts⟩ hM (cwV 2 hts gL_row_X3_row rfl hrc hrs (by decide +kernel) ⟨by show rm.frames + 1 ≤ 9; omega, by show _ + rm.locals ≤ 200; omega⟩) (th_preV (q := (RX3, TX3, 9)) hPc hKc (fun U hU hW => thB_moved hW (fun a9 h9 => by rw [hU]) hT) 0 rfl rfl) rfl rfl hl.1 rfl (lv_room (Nat.le_of_ble_eq_true rfl)) dL_row_5 ⟨Nat.le_of_ble_eq_true rfl, Nat.le_of_ble_eq_true rfl⟩) (fun ce q9 H1 hz9 hk9 hc9 hv9 hcl9 => ?_)
  have hP1 : va_P (dC, dI) vwCl (wX cs a n f ++ ((o, .inl (c3, 1, .inr (.inl z))) :: wr)) H1 := fun k9 q8 hq8 => (hP k9 q8 hq8).kept (hk9 q8.1 (hP k9 q8 hq8).lt)
  have hS1 : va_S A s.heap H1 [] := ⟨hz9, fun q8 h8 _ => hk9 q8 h8, fun _ h8 => nomatch h8⟩
  refine vx_catch (own := RL) (name := eS) (E := eS) hown (tableOf [(0, 10, 13, 13)]) ⟨0, 10, 17, 22⟩ (tableOf [(0, 10, 21, 24)]) htab (fun z9 h9 => by
    rcases List.mem_cons.mp h9 with rfl | h9
    · exact (Or.inr ⟨by decide, eA, mvW_moved (State.WarmedH.refl s) rfl hN.2.2.2, hN.1⟩)
    cases h9) (by decide) (by decide) (hts (.classLink RL 22 eS) (by decide +kernel)) (mvW_moved (State.WarmedH.refl s) rfl (hT.2.1 (.castable eS eS) (by decide +kernel))) hc9 hv9 hcl9 ?_
  refine W.eq (g2 := F0 m 17 ls (.ref q9 :: [])) rfl ?_
  refine lv_astore hx hb dL_row_17 (lv_sub hl [] rfl) (Nat.le_of_ble_eq_true rfl) rfl (fun ls hl => ?_)
  refine lv_iconst (v := nI 2) hx hb dL_row_19 (by decide) ?_
  exact h_iret hx hb hr hlocks hP1 hS1 dL_row_20
set_option maxHeartbeats 4000000 in
set_option maxRecDepth 100000 in
theorem hl_row_t3 (l : Launch) (dC : Nat → ClassId) (dI : Nat → Nat → Nat) (cs : ClassId × ClassId) (c3 : ClassId) (a n : Nat → Nat) (f : Nat → Nat → Int32) (sz o : Nat) (z : Nat → Int64) (wr : va_W) (y0 y1 : Int32) (rm : Room) (hrc : rm.cells = 1) (hrs : rm.slots = 6) (hrf : rm.frames ≤ 7) (hrl : rm.locals ≤ 108) (hM : vx_Met l yX3_row wsX3_row rm (thPc (dC, dI) vwCl (wX cs a n f) (tyl cs) [.ref (a 0), .int y0, .int y1]) noQ (thX eG) 1 6 (fun _ => False)) : Met l yL_row wsL_row ({ frames := 9, cells := 1, slots := 6, locals := 200 }) (hpPc (dC, dI) vwCl (wX cs a n f ++ ((o, .inl (c3, 1, .inr (.inl z))) :: wr)) (tyl3 cs c3) sz [.ref (a 0), .int y0, .int y1, .ref o]) (wrQ (dC, dI) vwCl (wX cs a n f ++ ((o, .inl (c3, 1, .inr (.inl z))) :: wr)) (some (.int (nI 3))) (va_A (wX cs a n f ++ ((o, .inl (c3, 1, .inr (.inl z))) :: wr)) sz)) 1 6 (va_A (wX cs a n f ++ ((o, .inl (c3, 1, .inr (.inl z))) :: wr)) sz) := by
  refine h_of (cc := cL_row) (maxL := 5) (ret := (some .int)) (own := RL) (by decide) rfl rfl (Nat.le_of_ble_eq_true rfl) ?_
  intro p e s m below meth c A hsz hAe hx hb hr hml hts hown hlocks htab hP hK hD hA hS hT hN ls hl
  have hl : lv_has ls 5 [(0, .ref (a 0)), (1, .int y0), (2, .int y1), (3, .ref o)] := hl
  have hPc : va_P (dC, dI) vwCl (wX cs a n f) s.heap := blkP (w0 := []) (wr := ((o, .inl (c3, 1, .inr (.inl z))) :: wr)) hP
  have hDc : va_D A (wX cs a n f) := blkD (w0 := []) (wr := ((o, .inl (c3, 1, .inr (.inl z))) :: wr)) hD
  have hKc : va_K (dC, dI) vwCl (tyl cs) s := hK.sub [0, 1] rfl
  obtain rfl : sz = s.heap.size := hsz.symm
  refine lv_aload_n hx hb dL_row_0 rfl (lv_at hl 3 rfl) ?_
  refine lv_iconst (v := nI 0) hx hb dL_row_1 (by decide) ?_
  refine lv_aload_n hx hb dL_row_2 rfl (lv_at hl 0 rfl) ?_
  refine lv_iload_n hx hb dL_row_3 rfl (lv_at hl 1 rfl) ?_
  refine lv_iload_n hx hb dL_row_4 rfl (lv_at hl 2 rfl) ?_
  refine th_call (E0 := eG) (rest := [.int (nI 0), .ref o]) (vx_runV (As := [.int y0, .int y1]) (rest := [.int (nI 0), .ref o]) ⟨hx, hb, hml, hown, hts⟩ hM (cwV 2 hts gL_row_X3_row rfl hrc hrs (by decide +kernel) ⟨by show rm.frames + 1 ≤ 9; omega, by show _ + rm.locals ≤ 200; omega⟩) (th_preV (q := (RX3, TX3, 9)) hPc hKc (fun U hU hW => thB_moved hW (fun a9 h9 => by rw [hU]) hT) 0 rfl rfl) rfl rfl hl.1 rfl (lv_room (Nat.le_of_ble_eq_true rfl)) dL_row_5 ⟨Nat.le_of_ble_eq_true rfl, Nat.le_of_ble_eq_true rfl⟩) (fun ce q9 H1 hz9 hk9 hc9 hv9 hcl9 => ?_)
  have hP1 : va_P (dC, dI) vwCl (wX cs a n f ++ ((o, .inl (c3, 1, .inr (.inl z))) :: wr)) H1 := fun k9 q8 hq8 => (hP k9 q8 hq8).kept (hk9 q8.1 (hP k9 q8 hq8).lt)
  have hS1 : va_S A s.heap H1 [] := ⟨hz9, fun q8 h8 _ => hk9 q8 h8, fun _ h8 => nomatch h8⟩
  refine vx_catch (own := RL) (name := eG) (E := eG) hown (tableOf [(0, 10, 13, 13), (0, 10, 17, 22)]) ⟨0, 10, 21, 24⟩ (tableOf []) htab (fun z9 h9 => by
    rcases List.mem_cons.mp h9 with rfl | h9
    · exact (Or.inr ⟨by decide, eA, mvW_moved (State.WarmedH.refl s) rfl hN.2.2.2, hN.2.1⟩)
    rcases List.mem_cons.mp h9 with rfl | h9
    · exact (Or.inr ⟨by decide, eS, hts (.classLink RL 22 eS) (by decide +kernel), hN.2.2.1⟩)
    cases h9) (by decide) (by decide) (hts (.classLink RL 24 eG) (by decide +kernel)) (mvW_moved (State.WarmedH.refl s) rfl (hT.2.2.1 (.castable eG eG) (by decide +kernel))) hc9 hv9 hcl9 ?_
  refine W.eq (g2 := F0 m 21 ls (.ref q9 :: [])) rfl ?_
  refine lv_astore hx hb dL_row_21 (lv_sub hl [] rfl) (Nat.le_of_ble_eq_true rfl) rfl (fun ls hl => ?_)
  refine lv_iconst (v := nI 3) hx hb dL_row_23 (by decide) ?_
  exact h_iret hx hb hr hlocks hP1 hS1 dL_row_24
