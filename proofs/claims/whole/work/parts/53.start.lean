/-! my own: the law's beginning -/
theorem ni_moved {s U : State} (hW : s.WarmedH U.vm) (h : niN s) : niN U := va_Nw.warmM hW h
theorem ni_blind {D : va_G} {cl : List vw_C} {ws : va_W} {tys : List (ClassId × FieldType)} {sz : Nat} {av : List Value} : FrameBlind (niPc D cl ws tys sz av) := fun a U g mk q => by
  obtain ⟨q0, q1, qP, qK, qD, qN⟩ := q
  exact ⟨q0, q1, qP, va_K.moved (u := U) (U := U.calling g mk a) (Vm.Alike.refl U.vm) qK, qD, ni_moved (s := U) (U := U.calling g mk a) (State.WarmedH.refl U) qN⟩
def ceB (b L : Nat) (xs : Nat → Int32) (av : List Value) : Array Value → State → Prop := va_Pc av (fun U => va_X b L xs U U.heap)
theorem ce_blind {b L : Nat} {xs : Nat → Int32} {av : List Value} : FrameBlind (ceB b L xs av) := fun a U g mk q => by
  obtain ⟨q0, q1⟩ := q
  exact ⟨q0, va_X.moved (u := U) (U := U.calling g mk a) (Vm.Alike.refl U.vm) q1⟩
def ce (L : Nat) (xs : Nat → Int32) (k : Nat) : Int32 := if k < L then xs k else 0
set_option maxHeartbeats 4000000 in
set_option maxRecDepth 100000 in
theorem hl_cell (l : Launch) (b L : Nat) (xs : Nat → Int32) (k : Nat) (hk : k < 3) (hL : L ≤ 2051) : Met l yL_cell wsL_cell ({ frames := 0, cells := 0, slots := 0, locals := 0 }) (ceB b L xs [.ref b, .int (nI k)]) (QcRead (ce L xs k)) 0 0 (fun _ => False) := by
  refine Met.ofW (cc := cL_cell) (maxL := 2) (ret := some .int) (by decide) rfl ?_
  intro p e s m args below meth c s₁ B hml hv
  obtain ⟨rfl, hX⟩ := hv
  have hx := B.exec
  have hb := B.bytes
  have hr := B.returns
  have hlocks := B.notSynchronized
  have hl := lv_entry [.ref b, .int (nI k)] (n := 2) (Nat.le_of_ble_eq_true rfl)
  rw [lg_entry_eq]
  generalize (lg_sl [.ref b, .int (nI k)] ++ List.replicate (2 - (lg_sl [.ref b, .int (nI k)]).length) Slot.unset).toArray = ls at hl ⊢
  have hl : lv_has ls 2 [(0, .ref b), (1, .int (nI k))] := hl
  have hbl : b < s.heap.size := by
    obtain ⟨scr, h1, -⟩ := hX
    exact (Array.getElem?_eq_some_iff.mp h1).1
  have hS : va_S (fun _ => False) s.heap s.heap [] := va_S.rf
  refine lv_iload_n hx hb dL_cell_0 rfl (lv_at hl 1 rfl) ?_
  refine lv_aload_n hx hb dL_cell_1 rfl (lv_at hl 0 rfl) ?_
  refine va_slen hx hb hX hbl (fun q => q) hS dL_cell_2 ?_
  refine lv_icmp_ge (tgt := 12) hx hb dL_cell_3 (by decide) (fun q => ?_) (fun q => ?_)
  · have q2 : L ≤ k := (nI_leI (by omega) (by omega)).mp q
    refine lv_iconst (v := 0) hx hb dL_cell_12 (by decide) ?_
    rw [show ce L xs k = 0 by unfold ce; rw [if_neg (by omega)]]
    exact rd_iret hx hb hr hlocks dL_cell_13
  · have q2 : k < L := by
      by_cases c1 : k < L
      · exact c1
      · exact absurd ((nI_leI (by omega) (by omega)).mpr (by omega)) q
    refine lv_aload_n hx hb dL_cell_6 rfl (lv_at hl 0 rfl) ?_
    refine lv_iload_n hx hb dL_cell_7 rfl (lv_at hl 1 rfl) ?_
    refine la_sld hx hb hX hbl (fun q => q) hS q2 hL dL_cell_8 ?_
    refine lv_goto (tgt := 13) hx hb dL_cell_9 (by decide) ?_
    rw [show ce L xs k = xs k by unfold ce; rw [if_pos q2]]
    exact rd_iret hx hb hr hlocks dL_cell_13
theorem x_sz5 (x : Int32) : 1 ≤ x_sz x 5 ∧ x_sz x 5 ≤ 32 := x_sz_b x 5
theorem x_sz6 (x : Int32) : 1 ≤ x_sz x 6 ∧ x_sz x 6 ≤ 64 := x_sz_b x 6
set_option maxHeartbeats 4000000 in
set_option maxRecDepth 100000 in
theorem whole_start {p : Program} {e : Env} {s : State} {m : MethodId} {below : List Frame} {meth : Method} {c : Code} (l : Launch) (hlt : l.stackTraces = false) {b L : Nat} {xs : Nat → Int32} (hL : L ≤ 2051) (C0 : lw_At p s m meth c b L xs) : W p l e room_1 s m #[Value.ref b] below meth c s.heap [] 0 0 (lw_Z below #[Value.ref b] s) (entryFrame m ([Value.ref b] : List Value).toArray 7) := by
  obtain ⟨hx, hb, hr, hml, hown, hts0, hX, hbl, hlocks, hgv⟩ := id C0
  have hts : ∀ w ∈ wsL_law, w.before #[Value.ref b] s = true := fun w h => hts0 w (wsL_law_in w h)
  have hA : ∀ q : Nat, s.heap.size ≤ q → newA s q := fun _ h => h
  have hbA : ¬ newA s b := Nat.not_le.mpr hbl
  have hT := st_thB hts0 hgv
  have hN := st_thN hts0 hgv
  have hNi := st_niN hts0
  obtain ⟨dC, dI, cs, c3, hK⟩ := st_known hts0
  have hKc : va_K (dC, dI) vwCl (tyl cs) s := hK.sub [0, 1] rfl
  have hS : va_S (newA s) s.heap s.heap [] := va_S.rf
  have hP : va_P (dC, dI) vwCl [] s.heap := fun k q h => by simp at h
  have hD : va_D (newA s) [] := ⟨fun i j p q h => by simp at h, fun k q h => by simp at h⟩
  have hl := lv_entry ([.ref b]) (n := 7) (Nat.le_of_ble_eq_true rfl)
  rw [lg_entry_eq]
  generalize (lg_sl ([.ref b]) ++ List.replicate (7 - (lg_sl ([.ref b])).length) Slot.unset).toArray = ls at hl ⊢
  have hl : lv_has ls 7 [(0, .ref b)] := hl
  refine va_new (ci := 4) (fs := [.null, .null, .null, .null, .null, .null, .int (nI 0), .int (nI 0), .int (nI 0)]) (C := RX3) (T := TX3) (N := 9) hx hb hts inlX3 tyX3 tyX3_ok hown (hts (.classLink RL 8 RX3) (by decide +kernel)) (hts (.instantiable RX3 9) (by decide +kernel)) (hts (.initialized RX3) (by decide +kernel)) hK hP hD hS hA rfl (fun j hj => by match j, hj with | 0, _ => rfl | 1, _ => rfl | 2, _ => rfl | 3, _ => rfl | 4, _ => rfl | 5, _ => rfl | 6, _ => rfl | 7, _ => rfl | 8, _ => rfl) (Nat.le_of_ble_eq_true rfl) (Nat.le_of_ble_eq_true rfl) dL_law_0 (fun h0 H hP hD hS => ?_)
  have hP : va_P (dC, dI) vwCl [(h0, .inr (4, [.null, .null, .null, .null, .null, .null, .int (nI 0), .int (nI 0), .int (nI 0)]))] H := hP
  have hD : va_D (newA s) [(h0, .inr (4, [.null, .null, .null, .null, .null, .null, .int (nI 0), .int (nI 0), .int (nI 0)]))] := hD
  refine lv_dup hx hb dL_law_3 rfl ?_
  refine lv_aload_n hx hb dL_law_4 rfl (lv_at hl 0 rfl) ?_
  refine lv_iconst (v := nI 0) hx hb dL_law_5 (by decide) ?_
  refine W.callR (W.runS (As := [.ref b, .int (nI 0)]) (rest := [.ref h0, .ref h0]) ⟨hx, hb, hml, hown, hts⟩ (hl_cell l b L xs 0 (by decide) hL) (cwS 2 hts gL_law_L_cell rfl rfl rfl (by decide +kernel) ⟨Nat.le_of_ble_eq_true rfl, Nat.le_of_ble_eq_true rfl⟩) ⟨ce_blind, fun U hU hW => ⟨rfl, va_X.moved hW.alike (va_X.kept hX (new_kept hS hU b hbl))⟩⟩ rfl rfl hl.1 rfl (lv_room (Nat.le_of_ble_eq_true rfl)) dL_law_6 ⟨Nat.le_of_ble_eq_true rfl, Nat.le_of_ble_eq_true rfl⟩) ?_
  refine W.eq (g2 := F0 m 9 ls (.int (ce L xs 0) :: .ref h0 :: .ref h0 :: [])) rfl ?_
  refine lv_aload_n hx hb dL_law_9 rfl (lv_at hl 0 rfl) ?_
  refine lv_iconst (v := nI 1) hx hb dL_law_10 (by decide) ?_
  refine W.callR (W.runS (As := [.ref b, .int (nI 1)]) (rest := [.int (ce L xs 0), .ref h0, .ref h0]) ⟨hx, hb, hml, hown, hts⟩ (hl_cell l b L xs 1 (by decide) hL) (cwS 2 hts gL_law_L_cell rfl rfl rfl (by decide +kernel) ⟨Nat.le_of_ble_eq_true rfl, Nat.le_of_ble_eq_true rfl⟩) ⟨ce_blind, fun U hU hW => ⟨rfl, va_X.moved hW.alike (va_X.kept hX (new_kept hS hU b hbl))⟩⟩ rfl rfl hl.1 rfl (lv_room (Nat.le_of_ble_eq_true rfl)) dL_law_11 ⟨Nat.le_of_ble_eq_true rfl, Nat.le_of_ble_eq_true rfl⟩) ?_
  refine W.eq (g2 := F0 m 14 ls (.int (ce L xs 1) :: .int (ce L xs 0) :: .ref h0 :: .ref h0 :: [])) rfl ?_
  refine lv_aload_n hx hb dL_law_14 rfl (lv_at hl 0 rfl) ?_
  refine lv_iconst (v := nI 2) hx hb dL_law_15 (by decide) ?_
  refine W.callR (W.runS (As := [.ref b, .int (nI 2)]) (rest := [.int (ce L xs 1), .int (ce L xs 0), .ref h0, .ref h0]) ⟨hx, hb, hml, hown, hts⟩ (hl_cell l b L xs 2 (by decide) hL) (cwS 2 hts gL_law_L_cell rfl rfl rfl (by decide +kernel) ⟨Nat.le_of_ble_eq_true rfl, Nat.le_of_ble_eq_true rfl⟩) ⟨ce_blind, fun U hU hW => ⟨rfl, va_X.moved hW.alike (va_X.kept hX (new_kept hS hU b hbl))⟩⟩ rfl rfl hl.1 rfl (lv_room (Nat.le_of_ble_eq_true rfl)) dL_law_16 ⟨Nat.le_of_ble_eq_true rfl, Nat.le_of_ble_eq_true rfl⟩) ?_
  refine W.eq (g2 := F0 m 19 ls (.int (ce L xs 2) :: .int (ce L xs 1) :: .int (ce L xs 0) :: .ref h0 :: .ref h0 :: [])) rfl ?_
  refine in_call (ws := [(h0, .inr (4, [.null, .null, .null, .null, .null, .null, .int (nI 0), .int (nI 0), .int (nI 0)]))]) (wr := []) (va_runI (As := [.int (ce L xs 0), .int (ce L xs 1), .int (ce L xs 2)]) (rest := [.ref h0]) ⟨hx, hb, hml, hown, hts⟩ (c_X3_init l dC dI cs h0 H.size (ce L xs 0) (ce L xs 1) (ce L xs 2) _ _ _ rfl rfl rfl) (cwI 3 hts gL_law_X3_init rfl rfl rfl (hts (.initialized RX3) (by decide +kernel)) (hts (.methodLink RL 66 yX3_init) (by decide +kernel)) (hts (.instanceMethod yX3_init) (by decide +kernel)) rfl (by decide +kernel) ⟨Nat.le_of_ble_eq_true rfl, Nat.le_of_ble_eq_true rfl⟩) ⟨ni_blind, fun U hU hW => ⟨rfl, by rw [hU], by rw [hU]; exact hP, va_K.moved hW.alike hKc, hD.weaken (fun _ _ _ _ => trivial), ni_moved hW hNi⟩⟩ rfl rfl hl.1 rfl (lv_room (Nat.le_of_ble_eq_true rfl)) dL_law_19 ⟨Nat.le_of_ble_eq_true rfl, Nat.le_of_ble_eq_true rfl⟩) hS hP hD hA [0] [] rfl rfl (by decide) (by decide) (fun qa H locs hP hD hS => ?_)
  refine W.eq (g2 := F0 m 22 ls (.ref h0 :: [])) rfl ?_
  have hP : va_P (dC, dI) vwCl (wX cs (fun i => if i = 0 then h0 else qa i) (x_n0 (x_sz (ce L xs 0) 5) (x_sz (ce L xs 1) 6) (x_sz (ce L xs 2) 6)) (x_f0 (x_sz (ce L xs 0) 5) (x_sz (ce L xs 1) 6))) H := hP
  have hD : va_D (newA s) (wX cs (fun i => if i = 0 then h0 else qa i) (x_n0 (x_sz (ce L xs 0) 5) (x_sz (ce L xs 1) 6) (x_sz (ce L xs 2) 6)) (x_f0 (x_sz (ce L xs 0) 5) (x_sz (ce L xs 1) 6))) := hD
  refine lv_astore_n (lv' := [(1, .ref h0), (0, .ref b)]) hx hb dL_law_22 rfl hl (by decide) rfl (fun ls hl => ?_)
  refine va_new (ci := 5) (fs := [.int (nI 0), .int (nI 0), .int (nI 0), .int (nI 0), .null, .null, .null, .null, .null, .int (nI 0), .int (nI 0), .int (nI 0), .null, .null, .null, .null, .null, .null, .null, .null, .null, .null, .int (nI 0), .int (nI 0), .null, .int (nI 0), .int (nI 0), .int (nI 0), .int (nI 0)]) (C := RX4) (T := TX4) (N := 29) hx hb hts inlX4 tyX4 tyX4_ok hown (hts (.classLink RL 69 RX4) (by decide +kernel)) (hts (.instantiable RX4 29) (by decide +kernel)) (hts (.initialized RX4) (by decide +kernel)) hK hP hD hS hA rfl (fun j hj => by match j, hj with | 0, _ => rfl | 1, _ => rfl | 2, _ => rfl | 3, _ => rfl | 4, _ => rfl | 5, _ => rfl | 6, _ => rfl | 7, _ => rfl | 8, _ => rfl | 9, _ => rfl | 10, _ => rfl | 11, _ => rfl | 12, _ => rfl | 13, _ => rfl | 14, _ => rfl | 15, _ => rfl | 16, _ => rfl | 17, _ => rfl | 18, _ => rfl | 19, _ => rfl | 20, _ => rfl | 21, _ => rfl | 22, _ => rfl | 23, _ => rfl | 24, _ => rfl | 25, _ => rfl | 26, _ => rfl | 27, _ => rfl | 28, _ => rfl | _ + 29, q => omega) (Nat.le_of_ble_eq_true rfl) (Nat.le_of_ble_eq_true rfl) dL_law_23 (fun h1 H hP hD hS => ?_)
  have hPm : va_P (dC, dI) vwCl [(h1, .inr (5, [.int (nI 0), .int (nI 0), .int (nI 0), .int (nI 0), .null, .null, .null, .null, .null, .int (nI 0), .int (nI 0), .int (nI 0), .null, .null, .null, .null, .null, .null, .null, .null, .null, .null, .int (nI 0), .int (nI 0), .null, .int (nI 0), .int (nI 0), .int (nI 0), .int (nI 0)]))] H := hP.sub [19] rfl
  have hDm : va_D (newA s) [(h1, .inr (5, [.int (nI 0), .int (nI 0), .int (nI 0), .int (nI 0), .null, .null, .null, .null, .null, .int (nI 0), .int (nI 0), .int (nI 0), .null, .null, .null, .null, .null, .null, .null, .null, .null, .null, .int (nI 0), .int (nI 0), .null, .int (nI 0), .int (nI 0), .int (nI 0), .int (nI 0)]))] := hD.sub [19] (by decide) rfl
  refine lv_dup hx hb dL_law_26 rfl ?_
  refine lv_aload_n hx hb dL_law_27 rfl (lv_at hl 1 rfl) ?_
  refine lv_iconst (v := nI 0) hx hb dL_law_28 (by decide) ?_
  refine W.callR (W.runS (As := [.ref b, .int (nI 0)]) (rest := [.ref h1, .ref h1]) ⟨hx, hb, hml, hown, hts⟩ (hl_cell l b L xs 0 (by decide) hL) (cwS 2 hts gL_law_L_cell rfl rfl rfl (by decide +kernel) ⟨Nat.le_of_ble_eq_true rfl, Nat.le_of_ble_eq_true rfl⟩) ⟨ce_blind, fun U hU hW => ⟨rfl, va_X.moved hW.alike (va_X.kept hX (new_kept hS hU b hbl))⟩⟩ rfl rfl hl.1 rfl (lv_room (Nat.le_of_ble_eq_true rfl)) dL_law_29 ⟨Nat.le_of_ble_eq_true rfl, Nat.le_of_ble_eq_true rfl⟩) ?_
  refine W.eq (g2 := F0 m 32 ls (.int (ce L xs 0) :: .ref h1 :: .ref h1 :: [])) rfl ?_
  refine lv_aload_n hx hb dL_law_32 rfl (lv_at hl 1 rfl) ?_
  refine lv_iconst (v := nI 1) hx hb dL_law_33 (by decide) ?_
  refine W.callR (W.runS (As := [.ref b, .int (nI 1)]) (rest := [.int (ce L xs 0), .ref h1, .ref h1]) ⟨hx, hb, hml, hown, hts⟩ (hl_cell l b L xs 1 (by decide) hL) (cwS 2 hts gL_law_L_cell rfl rfl rfl (by decide +kernel) ⟨Nat.le_of_ble_eq_true rfl, Nat.le_of_ble_eq_true rfl⟩) ⟨ce_blind, fun U hU hW => ⟨rfl, va_X.moved hW.alike (va_X.kept hX (new_kept hS hU b hbl))⟩⟩ rfl rfl hl.1 rfl (lv_room (Nat.le_of_ble_eq_true rfl)) dL_law_34 ⟨Nat.le_of_ble_eq_true rfl, Nat.le_of_ble_eq_true rfl⟩) ?_
  refine W.eq (g2 := F0 m 37 ls (.int (ce L xs 1) :: .int (ce L xs 0) :: .ref h1 :: .ref h1 :: [])) rfl ?_
  refine lv_aload_n hx hb dL_law_37 rfl (lv_at hl 1 rfl) ?_
  refine lv_iconst (v := nI 2) hx hb dL_law_38 (by decide) ?_
  refine W.callR (W.runS (As := [.ref b, .int (nI 2)]) (rest := [.int (ce L xs 1), .int (ce L xs 0), .ref h1, .ref h1]) ⟨hx, hb, hml, hown, hts⟩ (hl_cell l b L xs 2 (by decide) hL) (cwS 2 hts gL_law_L_cell rfl rfl rfl (by decide +kernel) ⟨Nat.le_of_ble_eq_true rfl, Nat.le_of_ble_eq_true rfl⟩) ⟨ce_blind, fun U hU hW => ⟨rfl, va_X.moved hW.alike (va_X.kept hX (new_kept hS hU b hbl))⟩⟩ rfl rfl hl.1 rfl (lv_room (Nat.le_of_ble_eq_true rfl)) dL_law_39 ⟨Nat.le_of_ble_eq_true rfl, Nat.le_of_ble_eq_true rfl⟩) ?_
  refine W.eq (g2 := F0 m 42 ls (.int (ce L xs 2) :: .int (ce L xs 1) :: .int (ce L xs 0) :: .ref h1 :: .ref h1 :: [])) rfl ?_
  refine in_call (wc := [(h1, .inr (5, [.int (nI 0), .int (nI 0), .int (nI 0), .int (nI 0), .null, .null, .null, .null, .null, .int (nI 0), .int (nI 0), .int (nI 0), .null, .null, .null, .null, .null, .null, .null, .null, .null, .null, .int (nI 0), .int (nI 0), .null, .int (nI 0), .int (nI 0), .int (nI 0), .int (nI 0)]))]) (wr := wX cs (fun i => if i = 0 then h0 else qa i) (x_n0 (x_sz (ce L xs 0) 5) (x_sz (ce L xs 1) 6) (x_sz (ce L xs 2) 6)) (x_f0 (x_sz (ce L xs 0) 5) (x_sz (ce L xs 1) 6))) (va_runI (As := [.int (ce L xs 0), .int (ce L xs 1), .int (ce L xs 2)]) (rest := [.ref h1]) ⟨hx, hb, hml, hown, hts⟩ (c_X4_init l dC dI cs h1 H.size (ce L xs 0) (ce L xs 1) (ce L xs 2) _ _ _ rfl rfl rfl) (cwI 3 hts gL_law_X4_init rfl rfl rfl (hts (.initialized RX4) (by decide +kernel)) (hts (.methodLink RL 71 yX4_init) (by decide +kernel)) (hts (.instanceMethod yX4_init) (by decide +kernel)) rfl (by decide +kernel) ⟨Nat.le_of_ble_eq_true rfl, Nat.le_of_ble_eq_true rfl⟩) ⟨wr_blind, fun U hU hW => ⟨rfl, by rw [hU], by rw [hU]; exact hPm, va_K.moved hW.alike hKc, hDm.weaken (fun _ _ _ _ => trivial)⟩⟩ rfl rfl hl.1 rfl (lv_room (Nat.le_of_ble_eq_true rfl)) dL_law_42 ⟨Nat.le_of_ble_eq_true rfl, Nat.le_of_ble_eq_true rfl⟩) hS hP hD hA [19] [0, 1, 2, 3, 4, 5, 6, 7, 8, 9, 10, 11, 12, 13, 14, 15, 16, 17, 18] rfl rfl (by decide) (by decide) (fun qb H locs hP hD hS => ?_)
  refine W.eq (g2 := F0 m 45 ls (.ref h1 :: [])) rfl ?_
  refine lv_astore_n (lv' := [(2, .ref h1), (1, .ref h0), (0, .ref b)]) hx hb dL_law_45 rfl hl (by decide) rfl (fun ls hl => ?_)
  refine lv_iconst (v := nI 1) hx hb dL_law_46 (by decide) ?_
  refine va_newa (atype := .long) (ty := .long) (a0 := (1, .inr (.inl (fun _ => 0)))) (N' := 1) hx hb (hts0 (.arrayClass .long) (by decide +kernel)) rfl hK hP hD hS hA (fun cA => rfl) (by decide) (nI_clamp (by decide)) (by decide) (Nat.le_of_ble_eq_true rfl) (Nat.le_of_ble_eq_true rfl) dL_law_47 (fun o cA H hK1 hP hD hS => ?_)
  have ec : cA = c3 := by
    have h1 := (hK.2 2 (c3, .long) rfl).2
    have h2 := (hK1.2 3 (cA, .long) rfl).2
    exact Option.some.inj (Eq.trans (Eq.symm h2) h1)
  subst ec
  refine lv_astore_n (lv' := [(3, .ref o), (2, .ref h1), (1, .ref h0), (0, .ref b)]) hx hb dL_law_49 rfl hl (by decide) rfl (fun ls hl => ?_)
  refine lv_iconst (v := nI 3) hx hb dL_law_50 (by decide) ?_
  refine lv_istore (lv' := [(4, .int (nI 3)), (3, .ref o), (2, .ref h1), (1, .ref h0), (0, .ref b)]) hx hb dL_law_51 hl (by decide) rfl (fun ls hl => ?_)
  have hP2 : va_P (dC, dI) vwCl (lwWd cs cA (fun i => if i = 0 then h0 else qa i) (fun i => if i = 0 then h1 else qb i) o (fun _ => 0) (x_n0 (x_sz (ce L xs 0) 5) (x_sz (ce L xs 1) 6) (x_sz (ce L xs 2) 6)) (x_f0 (x_sz (ce L xs 0) 5) (x_sz (ce L xs 1) 6)) (m_n0 (x_sz (ce L xs 0) 5) (x_sz (ce L xs 1) 6) (x_sz (ce L xs 2) 6)) (m_h0 (x_sz (ce L xs 0) 5) (x_sz (ce L xs 1) 6))) H := hP.sub [0, 1, 2, 3, 4, 5, 6, 7, 8, 9, 10, 11, 12, 13, 14, 15, 16, 17, 18, 36, 19, 20, 21, 22, 23, 24, 25, 26, 27, 28, 29, 30, 31, 32, 33, 34, 35] rfl
  have hD2 : va_D (newA s) (lwWd cs cA (fun i => if i = 0 then h0 else qa i) (fun i => if i = 0 then h1 else qb i) o (fun _ => 0) (x_n0 (x_sz (ce L xs 0) 5) (x_sz (ce L xs 1) 6) (x_sz (ce L xs 2) 6)) (x_f0 (x_sz (ce L xs 0) 5) (x_sz (ce L xs 1) 6)) (m_n0 (x_sz (ce L xs 0) 5) (x_sz (ce L xs 1) 6) (x_sz (ce L xs 2) 6)) (m_h0 (x_sz (ce L xs 0) 5) (x_sz (ce L xs 1) 6))) := hD.sub [0, 1, 2, 3, 4, 5, 6, 7, 8, 9, 10, 11, 12, 13, 14, 15, 16, 17, 18, 36, 19, 20, 21, 22, 23, 24, 25, 26, 27, 28, 29, 30, 31, 32, 33, 34, 35] (by decide) rfl
  refine W.widen (k := 50 + 0) (n := 2000 + 6 * 0) (Nat.le_of_ble_eq_true rfl) (Nat.le_of_ble_eq_true rfl) ?_
  exact lw_loop (a := fun i => if i = 0 then h0 else qa i) (bb := fun i => if i = 0 then h1 else qb i) (o := o) ⟨hlt, hx, hb, hml, hown, hts, hX, hbl, hK, hT, hN, hL⟩ hr hlocks 600 0 H locs ls (by omega) (by omega) ⟨_, _, _, _, _, Rel_init (x_sz5 _) (x_sz6 _) (x_sz6 _), hP2, hD2, hS⟩ (lv_sub hl [4, 3, 2, 1, 0] rfl)
