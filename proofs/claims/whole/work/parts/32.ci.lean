def x_sz (x : Int32) (k : Nat) : Nat := 1 + (x - nI 1).toBitVec.toNat % 2 ^ k
theorem x_sz_b (x : Int32) (k : Nat) : 1 ≤ x_sz x k ∧ x_sz x k ≤ 2 ^ k := by
  have h : (x - nI 1).toBitVec.toNat % 2 ^ k < 2 ^ k := Nat.mod_lt _ (Nat.two_pow_pos k)
  unfold x_sz
  omega
theorem x_sz_and (x : Int32) {sz k : Nat} (hm : (nI sz - nI 1).toBitVec.toNat = 2 ^ k - 1) : nI 1 + ((x - nI 1) &&& (nI sz - nI 1)) = nI (x_sz x k) := by
  rw [pk_and (x - nI 1) k hm, nI_add]
  rfl
def x_n0 (R E N : Nat) : Nat → Nat := un (un (un (un (fun _ => 0) 0 R) 1 (R + E)) 2 N) 7 E
def x_f0 (R E : Nat) : Nat → Nat → Int32 := uf (uf (uf (uf (uf (uf (fun _ _ => 0) 4 (x_id R)) 5 (x_id R)) 6 (x_non 8)) 7 (x_one R)) 8 (x_one R)) 9 (x_qu R E)
set_option maxHeartbeats 400000 in
theorem c_X3_oneToSize (l : Launch) (dC : Nat → ClassId) (dI : Nat → Nat → Nat) (cs : ClassId × ClassId) (x : Int32) (sz k : Nat) (hm : (nI sz - nI 1).toBitVec.toNat = 2 ^ k - 1) : Met l yX3_oneToSize wsX3_oneToSize ({ frames := 0, cells := 0, slots := 0, locals := 0 }) (rdPc (dC, dI) vwCl [] (tyl cs) [.int x, .int (nI sz)]) (QcRead (nI (x_sz x k))) 0 0 (fun _ => False) := by
  refine rd_of (cc := cX3_oneToSize) (maxL := 2) (ret := (some .int)) (own := RX3) (by decide) rfl rfl (Nat.le_of_ble_eq_true rfl) ?_
  intro p e s m below meth c hx hb hr hml hts hown hlocks hP hK ls hl
  have hl : lv_has ls 2 [(0, .int x), (1, .int (nI sz))] := hl
  refine lv_iconst (v := nI 1) hx hb dX3_oneToSize_0 (by decide) ?_
  refine lv_iload_n hx hb dX3_oneToSize_1 rfl (lv_at hl 0 rfl) ?_
  refine lv_iconst (v := nI 1) hx hb dX3_oneToSize_2 (by decide) ?_
  refine lv_isub hx hb dX3_oneToSize_3 ?_
  refine lv_iload_n hx hb dX3_oneToSize_4 rfl (lv_at hl 1 rfl) ?_
  refine lv_iconst (v := nI 1) hx hb dX3_oneToSize_5 (by decide) ?_
  refine lv_isub hx hb dX3_oneToSize_6 ?_
  refine lv_iand hx hb dX3_oneToSize_7 ?_
  refine lv_iadd hx hb dX3_oneToSize_8 ?_
  refine tp_eq (x_sz_and x hm) ?_
  exact rd_iret hx hb hr hlocks dX3_oneToSize_9

set_option maxHeartbeats 400000 in
set_option maxRecDepth 100000 in
theorem c_X1_init (l : Launch) (dC : Nat → ClassId) (dI : Nat → Nat → Nat) (cs : ClassId × ClassId) (h0 sz : Nat) (rg : Nat) (ex : Nat) (h1 : rg ≤ 32) (h2 : ex ≤ 64)  : Met l yX1_init wsX1_init ({ frames := 1, cells := 3, slots := 288, locals := 12 }) (wrPc (dC, dI) vwCl [(h0, .inr (2, [.null, .null, .null, .int (nI 0), .int (nI 0)]))] (tyl cs) sz [.ref (h0), .int (nI rg), .int (nI ex)]) (inQ (dC, dI) vwCl (fun q => [(h0, .inr (2, [.ref (q 1), .ref (q 2), .ref (q 3), .int (nI 0), .int (nI ex)])), (q 1, .inl (cs.1, (rg + ex), .inl (x_one rg))), (q 2, .inl (cs.2, (rg + ex), .inl (x_one rg))), (q 3, .inl (cs.1, (rg + ex), .inl (x_qu rg ex)))]) (va_A [(h0, .inr (2, [.null, .null, .null, .int (nI 0), .int (nI 0)]))] sz)) 3 288 (va_A [(h0, .inr (2, [.null, .null, .null, .int (nI 0), .int (nI 0)]))] sz) := by
  refine in_of (cc := cX1_init) (maxL := 5) (own := RX1) (by decide) rfl rfl rfl (Nat.le_of_ble_eq_true rfl) ?_
  intro p e s m below meth c A hsz hAe hx hb hr hml hts hown hlocks hin hP hK hD hA hS ls hl
  have hl : lv_has ls 5 [(0, .ref (h0)), (1, .int (nI rg)), (2, .int (nI ex))] := hl
  have hinX1 : ∀ w ∈ wsX10, w ∈ wsX1_init := by decide +kernel
  refine lv_aload_n hx hb dX1_init_0 rfl (lv_at hl 0 rfl) ?_
  refine W.objInit hx hb hown (hts (.methodLink RX1 3 objectInit) (by decide +kernel)) (hts (.instanceMethod objectInit) (by decide +kernel)) (hts _ (List.mem_of_getElem? (i := 3) rfl)) rfl (by rw [hml]; exact hl.1) rfl dX1_init_1 (Nat.le_of_ble_eq_true rfl) (Nat.le_of_ble_eq_true rfl) ?_
  refine W.eq (g2 := F0 m 4 ls []) rfl ?_
  refine lv_iload_n hx hb dX1_init_4 rfl (lv_at hl 1 rfl) ?_
  refine lv_iload_n hx hb dX1_init_5 rfl (lv_at hl 2 rfl) ?_
  refine lv_iadd hx hb dX1_init_6 ?_
  refine tp_eq (nI_add rg ex) ?_
  refine lv_istore_n (lv' := [(3, .int (nI (rg + ex))), (0, .ref (h0)), (1, .int (nI rg)), (2, .int (nI ex))]) hx hb dX1_init_7 rfl hl (by decide) rfl (fun ls hl => ?_)
  refine lv_aload_n hx hb dX1_init_8 rfl (lv_at hl 1 rfl) ?_
  refine lv_iload_n hx hb dX1_init_9 rfl (lv_at hl 0 rfl) ?_
  refine na_row (cs := cs) (at0 := .int) (ty := .int) (N' := (rg + ex)) 0 hx hb (hts (.arrayClass .int) (by decide +kernel)) rfl (by first | exact Or.inl rfl | exact Or.inr rfl) hK rfl hP hD hS hA (by omega) (by simp only []; omega) (by simp only []; omega) dX1_init_10 (fun q10 H hP hD hS => ?_)
  have hP : va_P (dC, dI) vwCl [(h0, .inr (2, [.null, .null, .null, .int (nI 0), .int (nI 0)])), (q10, .inl (cs.1, (rg + ex), .inl (fun _ => 0)))] H := hP
  have hD : va_D A [(h0, .inr (2, [.null, .null, .null, .int (nI 0), .int (nI 0)])), (q10, .inl (cs.1, (rg + ex), .inl (fun _ => 0)))] := hD
  refine W.widen (k := 1) (n := 96) (by omega) (by omega) ?_
  refine va_putF (D := (dC, dI)) (ci := 2) (v := .ref (q10)) (ty := (.array .int)) (C := RX1) (T := TX1) (N := 5) hx hb hts hinX1 tyX1 tyX1_ok nmX1 hown hK hP hD hS 0 rfl rfl 0 (by decide) (hts (.fieldLink RX1 9 "RenameRows$Names" "held" "[I") (by decide +kernel)) (fun _ h9 => h9) rfl hin rfl (by decide +kernel) rfl rfl (Nat.le_of_ble_eq_true rfl) dX1_init_12 (fun H locs hP hD hS => ?_)
  have hP : va_P (dC, dI) vwCl [(h0, .inr (2, [.ref (q10), .null, .null, .int (nI 0), .int (nI 0)])), (q10, .inl (cs.1, (rg + ex), .inl (fun _ => 0)))] H := hP
  have hD : va_D A [(h0, .inr (2, [.ref (q10), .null, .null, .int (nI 0), .int (nI 0)])), (q10, .inl (cs.1, (rg + ex), .inl (fun _ => 0)))] := hD
  refine lv_aload_n hx hb dX1_init_15 rfl (lv_at hl 1 rfl) ?_
  refine lv_iload_n hx hb dX1_init_16 rfl (lv_at hl 0 rfl) ?_
  refine na_row (cs := cs) (at0 := .boolean) (ty := .boolean) (N' := (rg + ex)) 1 hx hb (hts (.arrayClass .boolean) (by decide +kernel)) rfl (by first | exact Or.inl rfl | exact Or.inr rfl) hK rfl hP hD hS hA (by omega) (by simp only []; omega) (by simp only []; omega) dX1_init_17 (fun q17 H hP hD hS => ?_)
  have hP : va_P (dC, dI) vwCl [(h0, .inr (2, [.ref (q10), .null, .null, .int (nI 0), .int (nI 0)])), (q10, .inl (cs.1, (rg + ex), .inl (fun _ => 0))), (q17, .inl (cs.2, (rg + ex), .inl (fun _ => 0)))] H := hP
  have hD : va_D A [(h0, .inr (2, [.ref (q10), .null, .null, .int (nI 0), .int (nI 0)])), (q10, .inl (cs.1, (rg + ex), .inl (fun _ => 0))), (q17, .inl (cs.2, (rg + ex), .inl (fun _ => 0)))] := hD
  refine W.widen (k := 2) (n := 192) (by omega) (by omega) ?_
  refine va_putF (D := (dC, dI)) (ci := 2) (v := .ref (q17)) (ty := (.array .boolean)) (C := RX1) (T := TX1) (N := 5) hx hb hts hinX1 tyX1 tyX1_ok nmX1 hown hK hP hD hS 0 rfl rfl 1 (by decide) (hts (.fieldLink RX1 15 "RenameRows$Names" "ready" "[Z") (by decide +kernel)) (fun _ h9 => h9) rfl hin rfl (by decide +kernel) rfl rfl (Nat.le_of_ble_eq_true rfl) dX1_init_19 (fun H locs hP hD hS => ?_)
  have hP : va_P (dC, dI) vwCl [(h0, .inr (2, [.ref (q10), .ref (q17), .null, .int (nI 0), .int (nI 0)])), (q10, .inl (cs.1, (rg + ex), .inl (fun _ => 0))), (q17, .inl (cs.2, (rg + ex), .inl (fun _ => 0)))] H := hP
  have hD : va_D A [(h0, .inr (2, [.ref (q10), .ref (q17), .null, .int (nI 0), .int (nI 0)])), (q10, .inl (cs.1, (rg + ex), .inl (fun _ => 0))), (q17, .inl (cs.2, (rg + ex), .inl (fun _ => 0)))] := hD
  refine lv_aload_n hx hb dX1_init_22 rfl (lv_at hl 1 rfl) ?_
  refine lv_iload_n hx hb dX1_init_23 rfl (lv_at hl 0 rfl) ?_
  refine na_row (cs := cs) (at0 := .int) (ty := .int) (N' := (rg + ex)) 0 hx hb (hts (.arrayClass .int) (by decide +kernel)) rfl (by first | exact Or.inl rfl | exact Or.inr rfl) hK rfl hP hD hS hA (by omega) (by simp only []; omega) (by simp only []; omega) dX1_init_24 (fun q24 H hP hD hS => ?_)
  have hP : va_P (dC, dI) vwCl [(h0, .inr (2, [.ref (q10), .ref (q17), .null, .int (nI 0), .int (nI 0)])), (q10, .inl (cs.1, (rg + ex), .inl (fun _ => 0))), (q17, .inl (cs.2, (rg + ex), .inl (fun _ => 0))), (q24, .inl (cs.1, (rg + ex), .inl (fun _ => 0)))] H := hP
  have hD : va_D A [(h0, .inr (2, [.ref (q10), .ref (q17), .null, .int (nI 0), .int (nI 0)])), (q10, .inl (cs.1, (rg + ex), .inl (fun _ => 0))), (q17, .inl (cs.2, (rg + ex), .inl (fun _ => 0))), (q24, .inl (cs.1, (rg + ex), .inl (fun _ => 0)))] := hD
  refine W.widen (k := 3) (n := 288) (by omega) (by omega) ?_
  refine va_putF (D := (dC, dI)) (ci := 2) (v := .ref (q24)) (ty := (.array .int)) (C := RX1) (T := TX1) (N := 5) hx hb hts hinX1 tyX1 tyX1_ok nmX1 hown hK hP hD hS 0 rfl rfl 2 (by decide) (hts (.fieldLink RX1 19 "RenameRows$Names" "queued" "[I") (by decide +kernel)) (fun _ h9 => h9) rfl hin rfl (by decide +kernel) rfl rfl (Nat.le_of_ble_eq_true rfl) dX1_init_26 (fun H locs hP hD hS => ?_)
  have hP : va_P (dC, dI) vwCl [(h0, .inr (2, [.ref (q10), .ref (q17), .ref (q24), .int (nI 0), .int (nI 0)])), (q10, .inl (cs.1, (rg + ex), .inl (fun _ => 0))), (q17, .inl (cs.2, (rg + ex), .inl (fun _ => 0))), (q24, .inl (cs.1, (rg + ex), .inl (fun _ => 0)))] H := hP
  have hD : va_D A [(h0, .inr (2, [.ref (q10), .ref (q17), .ref (q24), .int (nI 0), .int (nI 0)])), (q10, .inl (cs.1, (rg + ex), .inl (fun _ => 0))), (q17, .inl (cs.2, (rg + ex), .inl (fun _ => 0))), (q24, .inl (cs.1, (rg + ex), .inl (fun _ => 0)))] := hD
  refine lv_iconst (v := nI 0) hx hb dX1_init_29 (by decide) ?_
  refine lv_istore (lv' := [(4, .int (nI 0)), (3, .int (nI (rg + ex))), (0, .ref (h0)), (1, .int (nI rg)), (2, .int (nI ex))]) hx hb dX1_init_30 hl (by decide) rfl (fun ls hl => ?_)
  have em1 : min 0 rg = 0 := by omega
  have em2 : 0 - rg = 0 := by omega
  have hP : va_P (dC, dI) vwCl [(h0, .inr (2, [.ref (q10), .ref (q17), .ref (q24), .int (nI 0), .int (nI (0 - rg))])), (q10, .inl (cs.1, (rg + ex), .inl (x_one (min 0 rg)))), (q17, .inl (cs.2, (rg + ex), .inl (x_one (min 0 rg)))), (q24, .inl (cs.1, (rg + ex), .inl (x_qu rg (0 - rg))))] H := by
    rw [em1, em2, x_one_0, x_qu_0]; exact hP
  have hD : va_D A [(h0, .inr (2, [.ref (q10), .ref (q17), .ref (q24), .int (nI 0), .int (nI (0 - rg))])), (q10, .inl (cs.1, (rg + ex), .inl (x_one (min 0 rg)))), (q17, .inl (cs.2, (rg + ex), .inl (x_one (min 0 rg)))), (q24, .inl (cs.1, (rg + ex), .inl (x_qu rg (0 - rg))))] := hD.same rfl
  have key : ∀ (k u : Nat), u + k = rg + ex → ∀ (H : Heap) (locs : List Loc), va_P (dC, dI) vwCl [(h0, .inr (2, [.ref (q10), .ref (q17), .ref (q24), .int (nI 0), .int (nI (u - rg))])), (q10, .inl (cs.1, (rg + ex), .inl (x_one (min u rg)))), (q17, .inl (cs.2, (rg + ex), .inl (x_one (min u rg)))), (q24, .inl (cs.1, (rg + ex), .inl (x_qu rg (u - rg))))] H → va_D A [(h0, .inr (2, [.ref (q10), .ref (q17), .ref (q24), .int (nI 0), .int (nI (u - rg))])), (q10, .inl (cs.1, (rg + ex), .inl (x_one (min u rg)))), (q17, .inl (cs.2, (rg + ex), .inl (x_one (min u rg)))), (q24, .inl (cs.1, (rg + ex), .inl (x_qu rg (u - rg))))] → va_S A s.heap H locs → ∀ ls : Array Slot, lv_has ls 5 [(4, .int (nI u)), (3, .int (nI (rg + ex))), (0, .ref (h0)), (1, .int (nI rg)), (2, .int (nI ex))] → W p l e ({ frames := 1, cells := 3, slots := 288, locals := 12 } : Room) s m ([.ref (h0), .int (nI rg), .int (nI ex)] : List Value).toArray below meth c H locs 3 288 (MQ below (inQ (dC, dI) vwCl (fun q => [(h0, .inr (2, [.ref (q 1), .ref (q 2), .ref (q 3), .int (nI 0), .int (nI ex)])), (q 1, .inl (cs.1, (rg + ex), .inl (x_one rg))), (q 2, .inl (cs.2, (rg + ex), .inl (x_one rg))), (q 3, .inl (cs.1, (rg + ex), .inl (x_qu rg ex)))]) A) ([.ref (h0), .int (nI rg), .int (nI ex)] : List Value).toArray s 3 288 A) (F0 m 32 ls []) := by
    intro k
    induction k with
    | zero =>
      intro u hu H locs hP hD hS ls hl
      refine lv_iload hx hb dX1_init_32 (lv_at hl 0 rfl) ?_
      refine lv_iload_n hx hb dX1_init_34 rfl (lv_at hl 1 rfl) ?_
      refine lv_icmp_ge (tgt := 90) hx hb dX1_init_35 (by decide) (fun c_1 => ?_) (fun c_1 => absurd (nI_le (by omega) (by omega)) c_1)
      have c_1 : (rg + ex) ≤ u := (nI_leI (by omega) (by omega)).mp c_1
      have em1 : min u rg = rg := by omega
      have em2 : u - rg = ex := by omega
      rw [em1, em2] at hP hD
      have hP : va_P (dC, dI) vwCl [(h0, .inr (2, [.ref (q10), .ref (q17), .ref (q24), .int (nI 0), .int (nI ex)])), (q10, .inl (cs.1, (rg + ex), .inl (x_one rg))), (q17, .inl (cs.2, (rg + ex), .inl (x_one rg))), (q24, .inl (cs.1, (rg + ex), .inl (x_qu rg ex)))] H := hP
      have hD : va_D A [(h0, .inr (2, [.ref (q10), .ref (q17), .ref (q24), .int (nI 0), .int (nI ex)])), (q10, .inl (cs.1, (rg + ex), .inl (x_one rg))), (q17, .inl (cs.2, (rg + ex), .inl (x_one rg))), (q24, .inl (cs.1, (rg + ex), .inl (x_qu rg ex)))] := hD
      refine W.widen (k := 3) (n := 288) (by omega) (by omega) ?_
      exact in_vret (w := fun q => [(h0, .inr (2, [.ref (q 1), .ref (q 2), .ref (q 3), .int (nI 0), .int (nI ex)])), (q 1, .inl (cs.1, (rg + ex), .inl (x_one rg))), (q 2, .inl (cs.2, (rg + ex), .inl (x_one rg))), (q 3, .inl (cs.1, (rg + ex), .inl (x_qu rg ex)))]) (fun i => if i = 1 then q10 else if i = 2 then q17 else if i = 3 then q24 else 0) hx hb hr hlocks (hP.sub [0, 1, 2, 3] (by rfl)) (hD.sub [0, 1, 2, 3] (by decide) (by rfl)) hS dX1_init_90
    | succ k ih =>
      intro u hu H locs hP hD hS ls hl
      refine lv_iload hx hb dX1_init_32 (lv_at hl 0 rfl) ?_
      refine lv_iload_n hx hb dX1_init_34 rfl (lv_at hl 1 rfl) ?_
      refine lv_icmp_ge (tgt := 90) hx hb dX1_init_35 (by decide) (fun c_2 => absurd ((nI_leI (by omega) (by omega)).mp c_2) (by omega)) (fun c_2 => ?_)
      have c_2 : ¬ (rg + ex) ≤ u := fun q => c_2 ((nI_leI (by omega) (by omega)).mpr q)
      refine lv_iload hx hb dX1_init_38 (lv_at hl 0 rfl) ?_
      refine lv_iload_n hx hb dX1_init_40 rfl (lv_at hl 3 rfl) ?_
      refine lv_icmp_ge (tgt := 63) hx hb dX1_init_41 (by decide) (fun c_3 => ?_) (fun c_3 => ?_)
      · have c_3 : rg ≤ u := (nI_leI (by omega) (by omega)).mp c_3
        refine lv_aload_n hx hb dX1_init_63 rfl (lv_at hl 2 rfl) ?_
        refine va_get (D := (dC, dI)) (ci := 2) (v := .ref (q24)) (C := RX1) (T := TX1) (N := 5) hx hb hts hinX1 hown hK hP 0 rfl rfl 2 (by decide) (hts (.fieldLink RX1 19 "RenameRows$Names" "queued" "[I") (by decide +kernel)) (fun _ h9 => h9) rfl dX1_init_64 ?_
        refine lv_aload_n hx hb dX1_init_67 rfl (lv_at hl 2 rfl) ?_
        refine va_get (D := (dC, dI)) (ci := 2) (v := .int (nI (u - rg))) (C := RX1) (T := TX1) (N := 5) hx hb hts hinX1 hown hK hP 0 rfl rfl 4 (by decide) (hts (.fieldLink RX1 22 "RenameRows$Names" "free" "I") (by decide +kernel)) (fun _ h9 => h9) rfl dX1_init_68 ?_
        refine lv_iload hx hb dX1_init_71 (lv_at hl 0 rfl) ?_
        refine ar_st (D := (dC, dI)) (n := (rg + ex)) (f := (x_qu rg (u - rg))) hx hb hK hP hD hS 3 0 rfl rfl (by omega) (by omega) dX1_init_73 (fun H locs hP hD hS => ?_)
        have hP : va_P (dC, dI) vwCl [(h0, .inr (2, [.ref (q10), .ref (q17), .ref (q24), .int (nI 0), .int (nI (u - rg))])), (q10, .inl (cs.1, (rg + ex), .inl (x_one (min u rg)))), (q17, .inl (cs.2, (rg + ex), .inl (x_one (min u rg)))), (q24, .inl (cs.1, (rg + ex), .inl (upd (x_qu rg (u - rg)) (u - rg) (nI u))))] H := hP
        have hD : va_D A [(h0, .inr (2, [.ref (q10), .ref (q17), .ref (q24), .int (nI 0), .int (nI (u - rg))])), (q10, .inl (cs.1, (rg + ex), .inl (x_one (min u rg)))), (q17, .inl (cs.2, (rg + ex), .inl (x_one (min u rg)))), (q24, .inl (cs.1, (rg + ex), .inl (upd (x_qu rg (u - rg)) (u - rg) (nI u))))] := hD
        refine lv_aload_n hx hb dX1_init_74 rfl (lv_at hl 2 rfl) ?_
        refine lv_dup hx hb dX1_init_75 rfl ?_
        refine va_get (D := (dC, dI)) (ci := 2) (v := .int (nI (u - rg))) (C := RX1) (T := TX1) (N := 5) hx hb hts hinX1 hown hK hP 0 rfl rfl 4 (by decide) (hts (.fieldLink RX1 22 "RenameRows$Names" "free" "I") (by decide +kernel)) (fun _ h9 => h9) rfl dX1_init_76 ?_
        refine lv_iconst (v := nI 1) hx hb dX1_init_79 (by decide) ?_
        refine lv_iadd hx hb dX1_init_80 ?_
        refine tp_eq (nI_add (u - rg) 1) ?_
        refine va_put (D := (dC, dI)) (ci := 2) (v := .int (nI ((u - rg) + 1))) (ty := .int) (C := RX1) (T := TX1) (N := 5) hx hb hts hinX1 tyX1 tyX1_ok nmX1 hown hK hP hD hS 0 rfl rfl 4 (by decide) (hts (.fieldLink RX1 22 "RenameRows$Names" "free" "I") (by decide +kernel)) (fun _ h9 => h9) rfl (by decide +kernel) rfl rfl (Nat.le_of_ble_eq_true rfl) dX1_init_81 (fun H locs hP hD hS => ?_)
        have hP : va_P (dC, dI) vwCl [(h0, .inr (2, [.ref (q10), .ref (q17), .ref (q24), .int (nI 0), .int (nI ((u - rg) + 1))])), (q10, .inl (cs.1, (rg + ex), .inl (x_one (min u rg)))), (q17, .inl (cs.2, (rg + ex), .inl (x_one (min u rg)))), (q24, .inl (cs.1, (rg + ex), .inl (upd (x_qu rg (u - rg)) (u - rg) (nI u))))] H := hP
        have hD : va_D A [(h0, .inr (2, [.ref (q10), .ref (q17), .ref (q24), .int (nI 0), .int (nI ((u - rg) + 1))])), (q10, .inl (cs.1, (rg + ex), .inl (x_one (min u rg)))), (q17, .inl (cs.2, (rg + ex), .inl (x_one (min u rg)))), (q24, .inl (cs.1, (rg + ex), .inl (upd (x_qu rg (u - rg)) (u - rg) (nI u))))] := hD
        have e1 : min (u + 1) rg = min u rg := by omega
        have e2 : x_qu rg (u + 1 - rg) = upd (x_qu rg (u - rg)) (u - rg) (nI u) := by (have := x_qu_s rg (u - rg); rw [show rg + (u - rg) = u by omega] at this; rw [show u + 1 - rg = u - rg + 1 by omega, this])
        have e3 : u + 1 - rg = (u - rg) + 1 := by omega
        have hP : va_P (dC, dI) vwCl [(h0, .inr (2, [.ref (q10), .ref (q17), .ref (q24), .int (nI 0), .int (nI (u + 1 - rg))])), (q10, .inl (cs.1, (rg + ex), .inl (x_one (min (u + 1) rg)))), (q17, .inl (cs.2, (rg + ex), .inl (x_one (min (u + 1) rg)))), (q24, .inl (cs.1, (rg + ex), .inl (x_qu rg (u + 1 - rg))))] H := by
          rw [e1, e2, e3]; exact hP
        have hD : va_D A [(h0, .inr (2, [.ref (q10), .ref (q17), .ref (q24), .int (nI 0), .int (nI (u + 1 - rg))])), (q10, .inl (cs.1, (rg + ex), .inl (x_one (min (u + 1) rg)))), (q17, .inl (cs.2, (rg + ex), .inl (x_one (min (u + 1) rg)))), (q24, .inl (cs.1, (rg + ex), .inl (x_qu rg (u + 1 - rg))))] := hD.same rfl
        refine lv_iinc (v := nI (u + 1)) (lv' := [(4, .int (nI (u + 1))), (3, .int (nI (rg + ex))), (0, .ref (h0)), (1, .int (nI rg)), (2, .int (nI ex))]) hx hb dX1_init_84 hl (k := 0) rfl (nI_succ u).symm (by decide) rfl (fun ls hl => ?_)
        refine lv_goto (tgt := 32) hx hb dX1_init_87 (by decide) ?_
        exact ih (u + 1) (by omega) H locs hP hD hS ls (lv_sub hl [0, 1, 2, 3, 4] rfl)
      · have c_3 : ¬ rg ≤ u := fun q => c_3 ((nI_leI (by omega) (by omega)).mpr q)
        refine lv_aload_n hx hb dX1_init_44 rfl (lv_at hl 2 rfl) ?_
        refine va_get (D := (dC, dI)) (ci := 2) (v := .ref (q10)) (C := RX1) (T := TX1) (N := 5) hx hb hts hinX1 hown hK hP 0 rfl rfl 0 (by decide) (hts (.fieldLink RX1 9 "RenameRows$Names" "held" "[I") (by decide +kernel)) (fun _ h9 => h9) rfl dX1_init_45 ?_
        refine lv_iload hx hb dX1_init_48 (lv_at hl 0 rfl) ?_
        refine lv_iconst (v := nI 1) hx hb dX1_init_50 (by decide) ?_
        refine ar_st (D := (dC, dI)) (n := (rg + ex)) (f := (x_one (min u rg))) hx hb hK hP hD hS 1 0 rfl rfl (by omega) (by omega) dX1_init_51 (fun H locs hP hD hS => ?_)
        have hP : va_P (dC, dI) vwCl [(h0, .inr (2, [.ref (q10), .ref (q17), .ref (q24), .int (nI 0), .int (nI (u - rg))])), (q10, .inl (cs.1, (rg + ex), .inl (upd (x_one (min u rg)) u (nI 1)))), (q17, .inl (cs.2, (rg + ex), .inl (x_one (min u rg)))), (q24, .inl (cs.1, (rg + ex), .inl (x_qu rg (u - rg))))] H := hP
        have hD : va_D A [(h0, .inr (2, [.ref (q10), .ref (q17), .ref (q24), .int (nI 0), .int (nI (u - rg))])), (q10, .inl (cs.1, (rg + ex), .inl (upd (x_one (min u rg)) u (nI 1)))), (q17, .inl (cs.2, (rg + ex), .inl (x_one (min u rg)))), (q24, .inl (cs.1, (rg + ex), .inl (x_qu rg (u - rg))))] := hD
        refine lv_aload_n hx hb dX1_init_52 rfl (lv_at hl 2 rfl) ?_
        refine va_get (D := (dC, dI)) (ci := 2) (v := .ref (q17)) (C := RX1) (T := TX1) (N := 5) hx hb hts hinX1 hown hK hP 0 rfl rfl 1 (by decide) (hts (.fieldLink RX1 15 "RenameRows$Names" "ready" "[Z") (by decide +kernel)) (fun _ h9 => h9) rfl dX1_init_53 ?_
        refine lv_iload hx hb dX1_init_56 (lv_at hl 0 rfl) ?_
        refine lv_iconst (v := nI 1) hx hb dX1_init_58 (by decide) ?_
        refine ar_zst (D := (dC, dI)) (n := (rg + ex)) (f := (x_one (min u rg))) hx hb hK hP hD hS 2 1 rfl rfl (y := nI 1) (by decide) (by omega) (by omega) dX1_init_59 (fun H locs hP hD hS => ?_)
        have hP : va_P (dC, dI) vwCl [(h0, .inr (2, [.ref (q10), .ref (q17), .ref (q24), .int (nI 0), .int (nI (u - rg))])), (q10, .inl (cs.1, (rg + ex), .inl (upd (x_one (min u rg)) u (nI 1)))), (q17, .inl (cs.2, (rg + ex), .inl (upd (x_one (min u rg)) u (nI 1)))), (q24, .inl (cs.1, (rg + ex), .inl (x_qu rg (u - rg))))] H := hP
        have hD : va_D A [(h0, .inr (2, [.ref (q10), .ref (q17), .ref (q24), .int (nI 0), .int (nI (u - rg))])), (q10, .inl (cs.1, (rg + ex), .inl (upd (x_one (min u rg)) u (nI 1)))), (q17, .inl (cs.2, (rg + ex), .inl (upd (x_one (min u rg)) u (nI 1)))), (q24, .inl (cs.1, (rg + ex), .inl (x_qu rg (u - rg))))] := hD
        refine lv_goto (tgt := 84) hx hb dX1_init_60 (by decide) ?_
        have e1 : x_one (min (u + 1) rg) = upd (x_one (min u rg)) u (nI 1) := by rw [show min (u + 1) rg = u + 1 by omega, show min u rg = u by omega, x_one_s]
        have e2 : u + 1 - rg = u - rg := by omega
        have hP : va_P (dC, dI) vwCl [(h0, .inr (2, [.ref (q10), .ref (q17), .ref (q24), .int (nI 0), .int (nI (u + 1 - rg))])), (q10, .inl (cs.1, (rg + ex), .inl (x_one (min (u + 1) rg)))), (q17, .inl (cs.2, (rg + ex), .inl (x_one (min (u + 1) rg)))), (q24, .inl (cs.1, (rg + ex), .inl (x_qu rg (u + 1 - rg))))] H := by
          rw [e1, e2]; exact hP
        have hD : va_D A [(h0, .inr (2, [.ref (q10), .ref (q17), .ref (q24), .int (nI 0), .int (nI (u + 1 - rg))])), (q10, .inl (cs.1, (rg + ex), .inl (x_one (min (u + 1) rg)))), (q17, .inl (cs.2, (rg + ex), .inl (x_one (min (u + 1) rg)))), (q24, .inl (cs.1, (rg + ex), .inl (x_qu rg (u + 1 - rg))))] := hD.same rfl
        refine lv_iinc (v := nI (u + 1)) (lv' := [(4, .int (nI (u + 1))), (3, .int (nI (rg + ex))), (0, .ref (h0)), (1, .int (nI rg)), (2, .int (nI ex))]) hx hb dX1_init_84 hl (k := 0) rfl (nI_succ u).symm (by decide) rfl (fun ls hl => ?_)
        refine lv_goto (tgt := 32) hx hb dX1_init_87 (by decide) ?_
        exact ih (u + 1) (by omega) H locs hP hD hS ls (lv_sub hl [0, 1, 2, 3, 4] rfl)
  exact key (rg + ex) 0 (by omega) _ _ hP hD hS ls (lv_sub hl [0, 1, 2, 3, 4] rfl)
