/-! the class's loops that write -/
theorem nI_mn {a b : Nat} (ha : a < 2 ^ 31) (hb : b < 2 ^ 31) : (if nI b < nI a then nI b else nI a) = nI (min a b) := by
  by_cases h : b < a
  · rw [if_pos ((nI_ltI hb ha).mpr h), Nat.min_eq_right (by omega)]
  · rw [if_neg (fun q => h ((nI_ltI hb ha).mp q)), Nat.min_eq_left (by omega)]
theorem x_find_nat {n : Nat → Nat} {f : Nat → Nat → Int32} {p : Int32} : ∀ (k i : Nat), (x_find n f p k i = -1 ∧ ∀ j, i ≤ j → j < i + k → ¬ (f 15 (x_pos n j) = p ∧ x_able n f (x_pos n j) = true)) ∨ ∃ j, i ≤ j ∧ j < i + k ∧ x_find n f p k i = nI (x_pos n j) ∧ f 15 (x_pos n j) = p ∧ x_able n f (x_pos n j) = true ∧ ∀ u, i ≤ u → u < j → ¬ (f 15 (x_pos n u) = p ∧ x_able n f (x_pos n u) = true)
  | 0, i => Or.inl ⟨rfl, fun j h1 h2 => absurd h2 (by omega)⟩
  | k + 1, i => by
    by_cases hc : f 15 (x_pos n i) = p ∧ x_able n f (x_pos n i) = true
    · exact Or.inr ⟨i, Nat.le_refl _, by omega, by simp [x_find, hc.1, hc.2], hc.1, hc.2, fun u h1 h2 => absurd h2 (by omega)⟩
    · have e : x_find n f p (k + 1) i = x_find n f p k (i + 1) := by
        rw [x_find, if_neg]
        intro q
        simp only [Bool.and_eq_true, decide_eq_true_eq] at q
        exact hc q
      rcases x_find_nat (n := n) (f := f) (p := p) k (i + 1) with ⟨h1, h2⟩ | ⟨j, h1, h2, h3, h4, h5, h6⟩
      · refine Or.inl ⟨e.trans h1, fun j g1 g2 => ?_⟩
        by_cases hj : j = i
        · rw [hj]; exact hc
        · exact h2 j (by omega) (by omega)
      · refine Or.inr ⟨j, by omega, by omega, e.trans h3, h4, h5, fun u g1 g2 => ?_⟩
        by_cases hu : u = i
        · rw [hu]; exact hc
        · exact h6 u (by omega) g2
theorem x_find_j {n : Nat → Nat} {f : Nat → Nat → Int32} {p : Int32} {k : Nat} (hb : n 8 < n 2) (hk : k ≤ n 2) (h : ¬ x_find n f p k 0 = -1) : ∃ j, j < n 2 ∧ x_find n f p k 0 = nI j := by
  rcases x_find_nat (n := n) (f := f) (p := p) k 0 with ⟨h1, -⟩ | ⟨j, h1, h2, h3, -⟩
  · exact absurd h1 h
  · exact ⟨_, x_pos_lt hb (by omega), h3⟩
def x_sp (n : Nat → Nat) (f : Nat → Nat → Int32) (k p : Nat) : Int32 := if p < k then x_find n f (nI p) (n 9) 0 else -1
def x_sF (n : Nat → Nat) (f : Nat → Nat → Int32) (k p : Nat) : Nat → Nat → Int32 := if x_sp n f k p = -1 then uf f 6 (upd (f 6) p (-1)) else uf (uf f 6 (upd (f 6) p (x_sp n f k p))) 16 (upd (f 16) (cl32 (x_sp n f k p)) (nI 1))
def x_se (n : Nat → Nat) (k : Nat) : Nat → Nat → (Nat → Nat → Int32) → Nat → Nat × (Nat → Nat → Int32)
  | 0, _, f, v => (v, f)
  | i + 1, p, f, v => x_se n k i (p + 1) (x_sF n f k p) (if x_sp n f k p = -1 then v else v + 1)
def x_cm : Nat → (Nat → Nat) → (Nat → Nat → Int32) → Nat × ((Nat → Nat) × (Nat → Nat → Int32))
  | 0, n, f => (0, n, f)
  | k + 1, n, f => if x_isIn n f (x_old n) (nI 2) = true then ((x_cm k (x_fiN n f) (x_fiF n f)).1 + 1, (x_cm k (x_fiN n f) (x_fiF n f)).2) else (0, n, f)
def x_cs : Nat → (Nat → Nat) → (Nat → Nat → Int32) → Prop
  | 0, _, _ => True
  | k + 1, n, f => x_isIn n f (x_old n) (nI 2) = true → x_fs n f ∧ x_bd (x_fiN n f) ∧ x_cs k (x_fiN n f) (x_fiF n f)
def x_wk : Nat → (Nat → Nat) → (Nat → Nat → Int32) → (Nat → Nat) × (Nat → Nat → Int32)
  | 0, n, f => (n, f)
  | k + 1, n, f => x_wk k (x_tbN n f) (x_tbF n f)
def x_ws : Nat → (Nat → Nat) → (Nat → Nat → Int32) → Prop
  | 0, _, _ => True
  | k + 1, n, f => 0 < n 9 ∧ x_ts n f ∧ x_bd (x_tbN n f) ∧ x_ws k (x_tbN n f) (x_tbF n f)
theorem x_isIn_old {n : Nat → Nat} {f : Nat → Nat → Int32} {w : Int32} (h : x_isIn n f (x_old n) w = true) : 0 < n 9 := by
  rcases Nat.eq_zero_or_pos (n 9) with h9 | h9
  · have : x_old n = -1 := by simp [x_old, h9]
    rw [this] at h
    simp [x_isIn, x_holds, inB_m1] at h
  · exact h9

set_option maxHeartbeats 4000000 in
set_option maxRecDepth 100000 in
theorem c_X3_select (l : Launch) (dC : Nat → ClassId) (dI : Nat → Nat → Nat) (cs : ClassId × ClassId) (a n : Nat → Nat) (f : Nat → Nat → Int32) (sz : Nat) (ka : Nat) (hB : x_bd n) (h1 : 1 ≤ ka) (h2 : ka ≤ 8)  : Met l yX3_select wsX3_select ({ frames := 5, cells := 0, slots := 0, locals := 108 }) (wrPc (dC, dI) vwCl (wX cs a n f) (tyl cs) sz [.ref (a 0), .int (nI ka)]) (wrQ (dC, dI) vwCl (wX cs a n (x_se n ka 8 0 f 0).2) (some (.int (nI ((x_se n ka 8 0 f 0).1)))) (va_A (wX cs a n f) sz)) 0 0 (va_A (wX cs a n f) sz) := by
  refine wr_of (cc := cX3_select) (maxL := 5) (ret := (some .int)) (own := RX3) (by decide) rfl rfl (Nat.le_of_ble_eq_true rfl) ?_
  intro p e s m below meth c A hsz hAe hx hb hr hml hts hown hlocks hP hK hD hA hS ls hl
  have hl : lv_has ls 5 [(0, .ref (a 0)), (1, .int (nI ka))] := hl
  have hinX3 : ∀ w ∈ wsX30, w ∈ wsX3_select := by decide +kernel
  obtain ⟨B1, B2, B3, B4, B5, B6, B7, B8, B9, B10, B11, B12, B13, B14, B15⟩ := id hB
  refine lv_iload_n hx hb dX3_select_0 rfl (lv_at hl 1 rfl) ?_
  refine lv_iconst (v := nI 1) hx hb dX3_select_1 (by decide) ?_
  refine lv_icmp_lt (tgt := 11) hx hb dX3_select_2 (by decide) (fun c_1 => absurd ((nI_ltI (by omega) (by omega)).mp c_1) (by omega)) (fun c_1 => ?_)
  have c_1 : ¬ ka < 1 := fun q => c_1 ((nI_ltI (by omega) (by omega)).mpr q)
  refine lv_iload_n hx hb dX3_select_5 rfl (lv_at hl 1 rfl) ?_
  refine lv_bipush (v := nI 8) hx hb dX3_select_6 (by decide) ?_
  refine lv_icmp_le (tgt := 21) hx hb dX3_select_8 (by decide) (fun c_2 => ?_) (fun c_2 => absurd (nI_le (by omega) (by omega)) c_2)
  have c_2 : ka ≤ 8 := (nI_leI (by omega) (by omega)).mp c_2
  refine lv_iconst (v := nI 0) hx hb dX3_select_21 (by decide) ?_
  refine lv_istore_n (lv' := [(2, .int (nI 0)), (0, .ref (a 0)), (1, .int (nI ka))]) hx hb dX3_select_22 rfl hl (by decide) rfl (fun ls hl => ?_)
  refine lv_iconst (v := nI 0) hx hb dX3_select_23 (by decide) ?_
  refine lv_istore_n (lv' := [(3, .int (nI 0)), (2, .int (nI 0)), (0, .ref (a 0)), (1, .int (nI ka))]) hx hb dX3_select_24 rfl hl (by decide) rfl (fun ls hl => ?_)
  have key : ∀ (i pn v : Nat) (F : Nat → Nat → Int32), pn + i = 8 → x_se n ka 8 0 f 0 = x_se n ka i pn F v → ∀ (H : Heap) (locs : List Loc), va_P (dC, dI) vwCl (wX cs a n F) H → va_D A (wX cs a n F) → va_S A s.heap H locs → ∀ ls : Array Slot, lv_has ls 5 [(3, .int (nI pn)), (2, .int (nI v)), (0, .ref (a 0)), (1, .int (nI ka))] → W p l e ({ frames := 5, cells := 0, slots := 0, locals := 108 } : Room) s m ([.ref (a 0), .int (nI ka)] : List Value).toArray below meth c H locs 0 0 (MQ below (wrQ (dC, dI) vwCl (wX cs a n (x_se n ka 8 0 f 0).2) (some (.int (nI ((x_se n ka 8 0 f 0).1)))) A) ([.ref (a 0), .int (nI ka)] : List Value).toArray s 0 0 A) (F0 m 25 ls []) := by
    intro k
    induction k with
    | zero =>
      intro pn v F hp hs H locs hP hD hS ls hl
      refine lv_iload_n hx hb dX3_select_25 rfl (lv_at hl 0 rfl) ?_
      refine lv_bipush (v := nI 8) hx hb dX3_select_26 (by decide) ?_
      refine lv_icmp_ge (tgt := 80) hx hb dX3_select_28 (by decide) (fun c_3 => ?_) (fun c_3 => absurd (nI_le (by omega) (by omega)) c_3)
      have c_3 : 8 ≤ pn := (nI_leI (by omega) (by omega)).mp c_3
      refine lv_iload_n hx hb dX3_select_80 rfl (lv_at hl 1 rfl) ?_
      have hP : va_P (dC, dI) vwCl (wX cs a n (x_se n ka 8 0 f 0).2) H := by
        have e9 : (wX cs a n F) = (wX cs a n (x_se n ka 8 0 f 0).2) := by rw [hs]; rfl
        rw [← e9]; exact hP
      refine tp_eq (show _ = nI ((x_se n ka 8 0 f 0).1) by rw [hs]; rfl) ?_
      exact wr_iret hx hb hr hlocks hP hS dX3_select_81
    | succ k ih =>
      intro pn v F hp hs H locs hP hD hS ls hl
      refine lv_iload_n hx hb dX3_select_25 rfl (lv_at hl 0 rfl) ?_
      refine lv_bipush (v := nI 8) hx hb dX3_select_26 (by decide) ?_
      refine lv_icmp_ge (tgt := 80) hx hb dX3_select_28 (by decide) (fun c_4 => absurd ((nI_leI (by omega) (by omega)).mp c_4) (by omega)) (fun c_4 => ?_)
      have c_4 : ¬ 8 ≤ pn := fun q => c_4 ((nI_leI (by omega) (by omega)).mpr q)
      refine lv_iload_n hx hb dX3_select_31 rfl (lv_at hl 0 rfl) ?_
      refine lv_iload_n hx hb dX3_select_32 rfl (lv_at hl 3 rfl) ?_
      refine lv_icmp_ge (tgt := 44) hx hb dX3_select_33 (by decide) (fun c_5 => ?_) (fun c_5 => ?_)
      · have c_5 : ka ≤ pn := (nI_leI (by omega) (by omega)).mp c_5
        refine lv_iconst (v := (-1)) hx hb dX3_select_44 (by decide) ?_
        refine lv_istore (lv' := [(4, .int (-1)), (3, .int (nI pn)), (2, .int (nI v)), (0, .ref (a 0)), (1, .int (nI ka))]) hx hb dX3_select_45 hl (by decide) rfl (fun ls hl => ?_)
        refine lv_aload_n hx hb dX3_select_47 rfl (lv_at hl 3 rfl) ?_
        refine va_get (D := (dC, dI)) (ci := 4) (v := .ref (a 6)) (C := RX3) (T := TX3) (N := 9) hx hb hts hinX3 hown hK hP 0 rfl rfl 5 (by decide) (hts (.fieldLink RX3 45 "RenameRows" "wentTo" "[I") (by decide +kernel)) (fun _ h9 => h9) rfl dX3_select_48 ?_
        refine lv_iload_n hx hb dX3_select_51 rfl (lv_at hl 1 rfl) ?_
        refine lv_iload hx hb dX3_select_52 (lv_at hl 0 rfl) ?_
        refine ar_st (D := (dC, dI)) (n := 8) (f := F 6) hx hb hK hP hD hS 6 0 rfl rfl (by omega) (by omega) dX3_select_54 (fun H locs hP hD hS => ?_)
        have hP : va_P (dC, dI) vwCl (wX cs a n (uf F 6 (upd (F 6) pn (-1)))) H := hP
        have hD : va_D A (wX cs a n (uf F 6 (upd (F 6) pn (-1)))) := hD
        refine lv_iload hx hb dX3_select_55 (lv_at hl 0 rfl) ?_
        refine lv_iconst (v := (-1)) hx hb dX3_select_57 (by decide) ?_
        refine lv_icmp_eq (tgt := 74) hx hb dX3_select_58 (by decide) (fun _ => ?_) (fun c => absurd rfl c)
        refine lv_iinc (v := nI (pn + 1)) (lv' := [(3, .int (nI (pn + 1))), (4, .int (-1)), (2, .int (nI v)), (0, .ref (a 0)), (1, .int (nI ka))]) hx hb dX3_select_74 hl (k := 1) rfl (nI_succ pn).symm (by decide) rfl (fun ls hl => ?_)
        refine lv_goto (tgt := 25) hx hb dX3_select_77 (by decide) ?_
        have esp : x_sp n F ka pn = -1 := by (rw [x_sp, if_neg (by omega)])
        have e9 : x_sF n F ka pn = (uf F 6 (upd (F 6) pn (-1))) := by simp [x_sF, esp]
        have hP : va_P (dC, dI) vwCl (wX cs a n (x_sF n F ka pn)) H := by
          rw [e9]; exact hP
        have hD : va_D A (wX cs a n (x_sF n F ka pn)) := hD.same rfl
        exact ih (pn + 1) (v) (x_sF n F ka pn) (by omega) (by rw [hs, x_se]; simp [esp]) H locs hP hD hS ls (lv_sub hl [0, 2, 3, 4] rfl)
      · have c_5 : ¬ ka ≤ pn := fun q => c_5 ((nI_leI (by omega) (by omega)).mpr q)
        refine lv_aload_n hx hb dX3_select_36 rfl (lv_at hl 2 rfl) ?_
        refine lv_iload_n hx hb dX3_select_37 rfl (lv_at hl 0 rfl) ?_
        refine W.callR (W.runV (As := [.int (nI pn)]) (rest := []) ⟨hx, hb, hml, hown, hts⟩ (c_X3_oldestAbleFor l dC dI cs a n F (nI pn) hB) (cwV 1 hts gX3_select_X3_oldestAbleFor rfl rfl rfl (by decide +kernel) ⟨Nat.le_of_ble_eq_true rfl, Nat.le_of_ble_eq_true rfl⟩) (rd_preV (q := (RX3, TX3, 9)) hP hK 0 rfl rfl) rfl rfl hl.1 rfl (lv_room (Nat.le_of_ble_eq_true rfl)) dX3_select_38 ⟨Nat.zero_le _, Nat.zero_le _⟩) ?_
        refine W.eq (g2 := F0 m 41 ls (.int (x_find n F (nI pn) (n 9) 0) :: [])) rfl ?_
        refine lv_goto (tgt := 45) hx hb dX3_select_41 (by decide) ?_
        refine lv_istore (lv' := [(4, .int (x_find n F (nI pn) (n 9) 0)), (3, .int (nI pn)), (2, .int (nI v)), (0, .ref (a 0)), (1, .int (nI ka))]) hx hb dX3_select_45 hl (by decide) rfl (fun ls hl => ?_)
        refine lv_aload_n hx hb dX3_select_47 rfl (lv_at hl 3 rfl) ?_
        refine va_get (D := (dC, dI)) (ci := 4) (v := .ref (a 6)) (C := RX3) (T := TX3) (N := 9) hx hb hts hinX3 hown hK hP 0 rfl rfl 5 (by decide) (hts (.fieldLink RX3 45 "RenameRows" "wentTo" "[I") (by decide +kernel)) (fun _ h9 => h9) rfl dX3_select_48 ?_
        refine lv_iload_n hx hb dX3_select_51 rfl (lv_at hl 1 rfl) ?_
        refine lv_iload hx hb dX3_select_52 (lv_at hl 0 rfl) ?_
        refine ar_st (D := (dC, dI)) (n := 8) (f := F 6) hx hb hK hP hD hS 6 0 rfl rfl (by omega) (by omega) dX3_select_54 (fun H locs hP hD hS => ?_)
        have hP : va_P (dC, dI) vwCl (wX cs a n (uf F 6 (upd (F 6) pn (x_find n F (nI pn) (n 9) 0)))) H := hP
        have hD : va_D A (wX cs a n (uf F 6 (upd (F 6) pn (x_find n F (nI pn) (n 9) 0)))) := hD
        refine lv_iload hx hb dX3_select_55 (lv_at hl 0 rfl) ?_
        refine lv_iconst (v := (-1)) hx hb dX3_select_57 (by decide) ?_
        refine lv_icmp_eq (tgt := 74) hx hb dX3_select_58 (by decide) (fun c_7 => ?_) (fun c_7 => ?_)
        · refine lv_iinc (v := nI (pn + 1)) (lv' := [(3, .int (nI (pn + 1))), (4, .int (x_find n F (nI pn) (n 9) 0)), (2, .int (nI v)), (0, .ref (a 0)), (1, .int (nI ka))]) hx hb dX3_select_74 hl (k := 1) rfl (nI_succ pn).symm (by decide) rfl (fun ls hl => ?_)
          refine lv_goto (tgt := 25) hx hb dX3_select_77 (by decide) ?_
          have esp : x_sp n F ka pn = -1 := by (rw [x_sp, if_pos (by omega)]; exact c_7)
          have e9 : x_sF n F ka pn = (uf F 6 (upd (F 6) pn (x_find n F (nI pn) (n 9) 0))) := by simp [x_sF, esp, c_7]
          have hP : va_P (dC, dI) vwCl (wX cs a n (x_sF n F ka pn)) H := by
            rw [e9]; exact hP
          have hD : va_D A (wX cs a n (x_sF n F ka pn)) := hD.same rfl
          exact ih (pn + 1) (v) (x_sF n F ka pn) (by omega) (by rw [hs, x_se]; simp [esp]) H locs hP hD hS ls (lv_sub hl [0, 2, 3, 4] rfl)
        · obtain ⟨jp, hjp, ejp⟩ := x_find_j (by omega) (by omega) c_7
          refine lv_aload_n hx hb dX3_select_61 rfl (lv_at hl 3 rfl) ?_
          refine va_get (D := (dC, dI)) (ci := 4) (v := .ref (a 2)) (C := RX3) (T := TX3) (N := 9) hx hb hts hinX3 hown hK hP 0 rfl rfl 1 (by decide) (hts (.fieldLink RX3 27 "RenameRows" "ring" "LRenameRows$Ring;") (by decide +kernel)) (fun _ h9 => h9) rfl dX3_select_62 ?_
          refine lv_iload hx hb dX3_select_65 (lv_at hl 0 rfl) ?_
          refine tp_eq ejp ?_
          refine lv_iconst (v := nI 1) hx hb dX3_select_67 (by decide) ?_
          refine wr_callv (va_runV (As := [.int (nI jp), .int (nI 1)]) (rest := []) ⟨hx, hb, hml, hown, hts⟩ (c_X2_setState l dC dI cs a n (uf F 6 (upd (F 6) pn (x_find n F (nI pn) (n 9) 0))) H.size jp (nI 1) hB (by first | omega | assumption)) (cwV 2 hts gX3_select_X2_setState rfl rfl rfl (by decide +kernel) ⟨Nat.le_of_ble_eq_true rfl, Nat.le_of_ble_eq_true rfl⟩) (wr_preV (q := (RX2, TX2, 10)) hP hK hD 2 rfl rfl) rfl rfl hl.1 rfl (lv_room (Nat.le_of_ble_eq_true rfl)) dX3_select_68 ⟨Nat.zero_le _, Nat.zero_le _⟩) hS hD hA rfl (fun H locs hP hD hS => ?_)
          have hP : va_P (dC, dI) vwCl (wX cs a n (uf (uf F 6 (upd (F 6) pn (x_find n F (nI pn) (n 9) 0))) 16 (upd (F 16) jp (nI 1)))) H := hP
          have hD : va_D A (wX cs a n (uf (uf F 6 (upd (F 6) pn (x_find n F (nI pn) (n 9) 0))) 16 (upd (F 16) jp (nI 1)))) := hD
          refine lv_iinc (v := nI (v + 1)) (lv' := [(2, .int (nI (v + 1))), (4, .int (x_find n F (nI pn) (n 9) 0)), (3, .int (nI pn)), (0, .ref (a 0)), (1, .int (nI ka))]) hx hb dX3_select_71 hl (k := 2) rfl (nI_succ v).symm (by decide) rfl (fun ls hl => ?_)
          refine lv_iinc (v := nI (pn + 1)) (lv' := [(3, .int (nI (pn + 1))), (2, .int (nI (v + 1))), (4, .int (x_find n F (nI pn) (n 9) 0)), (0, .ref (a 0)), (1, .int (nI ka))]) hx hb dX3_select_74 hl (k := 2) rfl (nI_succ pn).symm (by decide) rfl (fun ls hl => ?_)
          refine lv_goto (tgt := 25) hx hb dX3_select_77 (by decide) ?_
          have esp : x_sp n F ka pn = nI jp := by (rw [x_sp, if_pos (by omega), ejp])
          have e9 : x_sF n F ka pn = (uf (uf F 6 (upd (F 6) pn (x_find n F (nI pn) (n 9) 0))) 16 (upd (F 16) jp (nI 1))) := by simp [x_sF, esp, ejp, nI_m1 (show jp < 2 ^ 31 by omega), cl32_nI (show jp < 2 ^ 31 by omega)]
          have hP : va_P (dC, dI) vwCl (wX cs a n (x_sF n F ka pn)) H := by
            rw [e9]; exact hP
          have hD : va_D A (wX cs a n (x_sF n F ka pn)) := hD.same rfl
          exact ih (pn + 1) (v + 1) (x_sF n F ka pn) (by omega) (by rw [hs, x_se]; simp [esp, nI_m1 (show jp < 2 ^ 31 by omega)]) H locs hP hD hS ls (lv_sub hl [0, 1, 3, 4] rfl)
  exact key 8 0 0 f (by omega) rfl _ _ hP hD hS ls (lv_sub hl [0, 1, 2, 3] rfl)

set_option maxHeartbeats 4000000 in
set_option maxRecDepth 100000 in
theorem c_X3_commit (l : Launch) (dC : Nat → ClassId) (dI : Nat → Nat → Nat) (cs : ClassId × ClassId) (a n : Nat → Nat) (f : Nat → Nat → Int32) (sz : Nat) (ka : Nat) (M : Nat) (hM : x_rb n f = nI M) (hsafe : x_cs (min ka M) n f) (hB : x_bd n) (h1 : ka < 2 ^ 31) (h2 : M < 1000000)  : Met l yX3_commit wsX3_commit ({ frames := 3, cells := 0, slots := 0, locals := 65 }) (wrPc (dC, dI) vwCl (wX cs a n f) (tyl cs) sz [.ref (a 0), .int (nI ka)]) (wrQ (dC, dI) vwCl (wX cs a (x_cm (min ka M) n f).2.1 (x_cm (min ka M) n f).2.2) (some (.int (nI ((x_cm (min ka M) n f).1)))) (va_A (wX cs a n f) sz)) 0 0 (va_A (wX cs a n f) sz) := by
  refine wr_of (cc := cX3_commit) (maxL := 4) (ret := (some .int)) (own := RX3) (by decide) rfl rfl (Nat.le_of_ble_eq_true rfl) ?_
  intro p e s m below meth c A hsz hAe hx hb hr hml hts hown hlocks hP hK hD hA hS ls hl
  have hl : lv_has ls 4 [(0, .ref (a 0)), (1, .int (nI ka))] := hl
  have hinX3 : ∀ w ∈ wsX30, w ∈ wsX3_commit := by decide +kernel
  obtain ⟨B1, B2, B3, B4, B5, B6, B7, B8, B9, B10, B11, B12, B13, B14, B15⟩ := id hB
  refine lv_iload_n hx hb dX3_commit_0 rfl (lv_at hl 1 rfl) ?_
  refine lv_if_ge (tgt := 14) hx hb dX3_commit_1 (by decide) (fun _ => ?_) (fun c => absurd (nI_pos' (by omega)) c)
  refine lv_iload_n hx hb dX3_commit_14 rfl (lv_at hl 1 rfl) ?_
  refine lv_aload_n hx hb dX3_commit_15 rfl (lv_at hl 0 rfl) ?_
  refine W.callR (W.runV (As := []) (rest := [.int (nI ka)]) ⟨hx, hb, hml, hown, hts⟩ (c_X3_rowsBeforeOldestMark l dC dI cs a n f hB) (cwV 0 hts gX3_commit_X3_rowsBeforeOldestMark rfl rfl rfl (by decide +kernel) ⟨Nat.le_of_ble_eq_true rfl, Nat.le_of_ble_eq_true rfl⟩) (rd_preV (q := (RX3, TX3, 9)) hP hK 0 rfl rfl) rfl rfl hl.1 rfl (lv_room (Nat.le_of_ble_eq_true rfl)) dX3_commit_16 ⟨Nat.zero_le _, Nat.zero_le _⟩) ?_
  refine W.eq (g2 := F0 m 19 ls (.int (x_rb n f) :: [.int (nI ka)])) rfl ?_
  refine tp_eq hM ?_
  refine va_mmin hx hb (by rw [hml, hl.1]) hown (hts (.methodLink RX3 140 Lib.Math.min.name) (by decide +kernel)) (hts (.static Lib.Math.min.name) (by decide +kernel)) (hts (.initialized "java/lang/Math") (by decide +kernel)) (hts (.code Lib.Math.min.name Lib.Math.min.code 2 (some .int)) (by decide +kernel)) (by decide) (by decide) (Nat.zero_le _) (Nat.zero_le _) dX3_commit_19 ?_
  refine tp_eq (nI_mn (by omega) (by omega)) ?_
  refine lv_istore_n (lv' := [(2, .int (nI (min ka M))), (0, .ref (a 0)), (1, .int (nI ka))]) hx hb dX3_commit_22 rfl hl (by decide) rfl (fun ls hl => ?_)
  refine lv_iconst (v := nI 0) hx hb dX3_commit_23 (by decide) ?_
  refine lv_istore_n (lv' := [(3, .int (nI 0)), (2, .int (nI (min ka M))), (0, .ref (a 0)), (1, .int (nI ka))]) hx hb dX3_commit_24 rfl hl (by decide) rfl (fun ls hl => ?_)
  have key : ∀ (i v : Nat) (N : Nat → Nat) (F : Nat → Nat → Int32), v + i = min ka M → x_bd N → x_cs i N F → x_cm (min ka M) n f = ((x_cm i N F).1 + v, (x_cm i N F).2) → ∀ (H : Heap) (locs : List Loc), va_P (dC, dI) vwCl (wX cs a N F) H → va_D A (wX cs a N F) → va_S A s.heap H locs → ∀ ls : Array Slot, lv_has ls 4 [(3, .int (nI v)), (2, .int (nI (min ka M))), (0, .ref (a 0)), (1, .int (nI ka))] → W p l e ({ frames := 3, cells := 0, slots := 0, locals := 65 } : Room) s m ([.ref (a 0), .int (nI ka)] : List Value).toArray below meth c H locs 0 0 (MQ below (wrQ (dC, dI) vwCl (wX cs a (x_cm (min ka M) n f).2.1 (x_cm (min ka M) n f).2.2) (some (.int (nI ((x_cm (min ka M) n f).1)))) A) ([.ref (a 0), .int (nI ka)] : List Value).toArray s 0 0 A) (F0 m 25 ls []) := by
    intro k
    induction k with
    | zero =>
      intro v N F hv hB hsf hs H locs hP hD hS ls hl
      obtain ⟨E1, E2, E3, E4, E5, E6, E7, E8, E9, E10, E11, E12, E13, E14, E15⟩ := id hB
      refine lv_iload_n hx hb dX3_commit_25 rfl (lv_at hl 0 rfl) ?_
      refine lv_iload_n hx hb dX3_commit_26 rfl (lv_at hl 1 rfl) ?_
      refine lv_icmp_ge (tgt := 58) hx hb dX3_commit_27 (by decide) (fun c_2 => ?_) (fun c_2 => absurd (nI_le (by omega) (by omega)) c_2)
      have c_2 : (min ka M) ≤ v := (nI_leI (by omega) (by omega)).mp c_2
      refine lv_iload_n hx hb dX3_commit_58 rfl (lv_at hl 0 rfl) ?_
      have hP : va_P (dC, dI) vwCl (wX cs a (x_cm (min ka M) n f).2.1 (x_cm (min ka M) n f).2.2) H := by
        have e9 : (wX cs a N F) = (wX cs a (x_cm (min ka M) n f).2.1 (x_cm (min ka M) n f).2.2) := by rw [hs]; simp [x_cm, c_2]
        rw [← e9]; exact hP
      refine tp_eq (show _ = nI ((x_cm (min ka M) n f).1) by rw [hs]; simp [x_cm, c_2]) ?_
      exact wr_iret hx hb hr hlocks hP hS dX3_commit_59
    | succ k ih =>
      intro v N F hv hB hsf hs H locs hP hD hS ls hl
      obtain ⟨E1, E2, E3, E4, E5, E6, E7, E8, E9, E10, E11, E12, E13, E14, E15⟩ := id hB
      refine lv_iload_n hx hb dX3_commit_25 rfl (lv_at hl 0 rfl) ?_
      refine lv_iload_n hx hb dX3_commit_26 rfl (lv_at hl 1 rfl) ?_
      refine lv_icmp_ge (tgt := 58) hx hb dX3_commit_27 (by decide) (fun c_3 => absurd ((nI_leI (by omega) (by omega)).mp c_3) (by omega)) (fun c_3 => ?_)
      have c_3 : ¬ (min ka M) ≤ v := fun q => c_3 ((nI_leI (by omega) (by omega)).mpr q)
      refine lv_aload_n hx hb dX3_commit_30 rfl (lv_at hl 2 rfl) ?_
      refine va_get (D := (dC, dI)) (ci := 4) (v := .ref (a 2)) (C := RX3) (T := TX3) (N := 9) hx hb hts hinX3 hown hK hP 0 rfl rfl 1 (by decide) (hts (.fieldLink RX3 27 "RenameRows" "ring" "LRenameRows$Ring;") (by decide +kernel)) (fun _ h9 => h9) rfl dX3_commit_31 ?_
      refine lv_aload_n hx hb dX3_commit_34 rfl (lv_at hl 2 rfl) ?_
      refine va_get (D := (dC, dI)) (ci := 4) (v := .ref (a 2)) (C := RX3) (T := TX3) (N := 9) hx hb hts hinX3 hown hK hP 0 rfl rfl 1 (by decide) (hts (.fieldLink RX3 27 "RenameRows" "ring" "LRenameRows$Ring;") (by decide +kernel)) (fun _ h9 => h9) rfl dX3_commit_35 ?_
      refine W.callR (W.runV (As := []) (rest := [.ref (a 2)]) ⟨hx, hb, hml, hown, hts⟩ (c_X2_oldestPlace l dC dI cs a N F hB) (cwV 0 hts gX3_commit_X2_oldestPlace rfl rfl rfl (by decide +kernel) ⟨Nat.le_of_ble_eq_true rfl, Nat.le_of_ble_eq_true rfl⟩) (rd_preV (q := (RX2, TX2, 10)) hP hK 2 rfl rfl) rfl rfl hl.1 rfl (lv_room (Nat.le_of_ble_eq_true rfl)) dX3_commit_38 ⟨Nat.zero_le _, Nat.zero_le _⟩) ?_
      refine W.eq (g2 := F0 m 41 ls (.int (x_old N) :: [.ref (a 2)])) rfl ?_
      refine lv_iconst (v := nI 2) hx hb dX3_commit_41 (by decide) ?_
      refine W.callR (W.runV (As := [.int (x_old N), .int (nI 2)]) (rest := []) ⟨hx, hb, hml, hown, hts⟩ (c_X2_isInState l dC dI cs a N F (x_old N) (nI 2) hB) (cwV 2 hts gX3_commit_X2_isInState rfl rfl rfl (by decide +kernel) ⟨Nat.le_of_ble_eq_true rfl, Nat.le_of_ble_eq_true rfl⟩) (rd_preV (q := (RX2, TX2, 10)) hP hK 2 rfl rfl) rfl rfl hl.1 rfl (lv_room (Nat.le_of_ble_eq_true rfl)) dX3_commit_42 ⟨Nat.zero_le _, Nat.zero_le _⟩) ?_
      refine W.eq (g2 := F0 m 45 ls (.int (b2i (x_isIn N F (x_old N) (nI 2))) :: [])) rfl ?_
      refine lv_if_eq (tgt := 58) hx hb dX3_commit_45 (by decide) (fun c_4 => ?_) (fun c_4 => ?_)
      · have c_4 : x_isIn N F (x_old N) (nI 2) = false := b2i_f c_4
        refine lv_iload_n hx hb dX3_commit_58 rfl (lv_at hl 0 rfl) ?_
        have hP : va_P (dC, dI) vwCl (wX cs a (x_cm (min ka M) n f).2.1 (x_cm (min ka M) n f).2.2) H := by
          have e9 : (wX cs a N F) = (wX cs a (x_cm (min ka M) n f).2.1 (x_cm (min ka M) n f).2.2) := by rw [hs]; simp [x_cm, c_4]
          rw [← e9]; exact hP
        refine tp_eq (show _ = nI ((x_cm (min ka M) n f).1) by rw [hs]; simp [x_cm, c_4]) ?_
        exact wr_iret hx hb hr hlocks hP hS dX3_commit_59
      · have c_4 : x_isIn N F (x_old N) (nI 2) = true := b2i_t c_4
        have hpos := x_isIn_old c_4
        obtain ⟨hfs, hB9, hS9⟩ := hsf c_4
        refine lv_aload_n hx hb dX3_commit_48 rfl (lv_at hl 2 rfl) ?_
        refine wr_callv (va_runV (As := []) (rest := []) ⟨hx, hb, hml, hown, hts⟩ (c_X3_finishOldest l dC dI cs a N F H.size hB hpos hfs) (cwV 0 hts gX3_commit_X3_finishOldest rfl rfl rfl (by decide +kernel) ⟨Nat.le_of_ble_eq_true rfl, Nat.le_of_ble_eq_true rfl⟩) (wr_preV (q := (RX3, TX3, 9)) hP hK hD 0 rfl rfl) rfl rfl hl.1 rfl (lv_room (Nat.le_of_ble_eq_true rfl)) dX3_commit_49 ⟨Nat.zero_le _, Nat.zero_le _⟩) hS hD hA rfl (fun H locs hP hD hS => ?_)
        have hP : va_P (dC, dI) vwCl (wX cs a (x_fiN N F) (x_fiF N F)) H := hP
        have hD : va_D A (wX cs a (x_fiN N F) (x_fiF N F)) := hD
        refine lv_iinc (v := nI (v + 1)) (lv' := [(3, .int (nI (v + 1))), (2, .int (nI (min ka M))), (0, .ref (a 0)), (1, .int (nI ka))]) hx hb dX3_commit_52 hl (k := 0) rfl (nI_succ v).symm (by decide) rfl (fun ls hl => ?_)
        refine lv_goto (tgt := 25) hx hb dX3_commit_55 (by decide) ?_
        exact ih (v + 1) (x_fiN N F) (x_fiF N F) (by omega) hB9 hS9 (by rw [hs, x_cm, if_pos c_4]; simp; omega) H locs hP hD hS ls (lv_sub hl [0, 1, 2, 3] rfl)
  exact key (min ka M) 0 n f (by omega) hB hsafe rfl _ _ hP hD hS ls (lv_sub hl [0, 1, 2, 3] rfl)

set_option maxHeartbeats 4000000 in
set_option maxRecDepth 100000 in
theorem c_X3_wrong (l : Launch) (dC : Nat → ClassId) (dI : Nat → Nat → Nat) (cs : ClassId × ClassId) (a n : Nat → Nat) (f : Nat → Nat → Int32) (sz : Nat) (j : Nat) (t0 bv K t : Nat) (ht0 : x_turn n f (nI j) = nI t0) (hbv : f 17 j = nI bv) (hsafe : x_ws K n f) (ht : x_turn (x_wk K n f).1 (x_wk K n f).2 (nI j) = nI t) (hB : x_bd n) (h1 : j < 8) (h2 : t0 < 8) (h3 : n 10 + n 9 = bv + K) (h4 : t < (x_wk K n f).1 11) (h5 : (x_wk K n f).1 3 + K < 1000000)  : Met l yX3_wrong wsX3_wrong ({ frames := 3, cells := 0, slots := 0, locals := 65 }) (wrPc (dC, dI) vwCl (wX cs a n f) (tyl cs) sz [.ref (a 0), .int (nI j)]) (wrQ (dC, dI) vwCl (wX cs a (un (un (x_wk K n f).1 11 (t)) 3 ((x_wk K n f).1 3 + K)) (x_wk K n f).2) (some (.int (nI K))) (va_A (wX cs a n f) sz)) 0 0 (va_A (wX cs a n f) sz) := by
  refine wr_of (cc := cX3_wrong) (maxL := 4) (ret := (some .int)) (own := RX3) (by decide) rfl rfl (Nat.le_of_ble_eq_true rfl) ?_
  intro p e s m below meth c A hsz hAe hx hb hr hml hts hown hlocks hP hK hD hA hS ls hl
  have hl : lv_has ls 4 [(0, .ref (a 0)), (1, .int (nI j))] := hl
  have hinX3 : ∀ w ∈ wsX30, w ∈ wsX3_wrong := by decide +kernel
  obtain ⟨B1, B2, B3, B4, B5, B6, B7, B8, B9, B10, B11, B12, B13, B14, B15⟩ := id hB
  have hbv1 : x_bef f (nI j) = nI bv := by rw [x_bef, inB_nI (by omega) (by omega), cl32_nI (by omega)]; simp [hbv]; omega
  refine lv_aload_n hx hb dX3_wrong_0 rfl (lv_at hl 0 rfl) ?_
  refine va_get (D := (dC, dI)) (ci := 4) (v := .ref (a 3)) (C := RX3) (T := TX3) (N := 9) hx hb hts hinX3 hown hK hP 0 rfl rfl 2 (by decide) (hts (.fieldLink RX3 34 "RenameRows" "marks" "LRenameRows$Marks;") (by decide +kernel)) (fun _ h9 => h9) rfl dX3_wrong_1 ?_
  refine lv_iload_n hx hb dX3_wrong_4 rfl (lv_at hl 1 rfl) ?_
  refine W.callR (W.runV (As := [.int (nI j)]) (rest := []) ⟨hx, hb, hml, hown, hts⟩ (c_X0_isMark l dC dI cs a n f (nI j) hB) (cwV 1 hts gX3_wrong_X0_isMark rfl rfl rfl (by decide +kernel) ⟨Nat.le_of_ble_eq_true rfl, Nat.le_of_ble_eq_true rfl⟩) (rd_preV (q := (RX0, TX0, 3)) hP hK 3 rfl rfl) rfl rfl hl.1 rfl (lv_room (Nat.le_of_ble_eq_true rfl)) dX3_wrong_5 ⟨Nat.zero_le _, Nat.zero_le _⟩) ?_
  refine W.eq (g2 := F0 m 8 ls (.int (b2i (inB (nI j) 8)) :: [])) rfl ?_
  refine lv_if_ne (tgt := 21) hx hb dX3_wrong_8 (by decide) (fun c_1 => ?_) (fun c_1 => absurd (b2i_f c_1) (by rw [inB_nI (by omega) (by omega)]; simp; omega))
  have c_1 : inB (nI j) 8 = true := b2i_t c_1
  refine lv_aload_n hx hb dX3_wrong_21 rfl (lv_at hl 0 rfl) ?_
  refine va_get (D := (dC, dI)) (ci := 4) (v := .ref (a 3)) (C := RX3) (T := TX3) (N := 9) hx hb hts hinX3 hown hK hP 0 rfl rfl 2 (by decide) (hts (.fieldLink RX3 34 "RenameRows" "marks" "LRenameRows$Marks;") (by decide +kernel)) (fun _ h9 => h9) rfl dX3_wrong_22 ?_
  refine lv_iload_n hx hb dX3_wrong_25 rfl (lv_at hl 1 rfl) ?_
  refine W.callR (W.runV (As := [.int (nI j)]) (rest := []) ⟨hx, hb, hml, hown, hts⟩ (c_X0_isFree l dC dI cs a n f (nI j) hB) (cwV 1 hts gX3_wrong_X0_isFree rfl rfl rfl (by decide +kernel) ⟨Nat.le_of_ble_eq_true rfl, Nat.le_of_ble_eq_true rfl⟩) (rd_preV (q := (RX0, TX0, 3)) hP hK 3 rfl rfl) rfl rfl hl.1 rfl (lv_room (Nat.le_of_ble_eq_true rfl)) dX3_wrong_26 ⟨Nat.zero_le _, Nat.zero_le _⟩) ?_
  refine W.eq (g2 := F0 m 29 ls (.int (b2i (decide (x_turn n f (nI j) = -1))) :: [])) rfl ?_
  refine lv_if_eq (tgt := 42) hx hb dX3_wrong_29 (by decide) (fun c_2 => ?_) (fun c_2 => absurd (b2i_t c_2) (by rw [ht0]; simp; exact nI_m1 (by omega)))
  have c_2 : decide (x_turn n f (nI j) = -1) = false := b2i_f c_2
  refine lv_aload_n hx hb dX3_wrong_42 rfl (lv_at hl 0 rfl) ?_
  refine va_get (D := (dC, dI)) (ci := 4) (v := .ref (a 2)) (C := RX3) (T := TX3) (N := 9) hx hb hts hinX3 hown hK hP 0 rfl rfl 1 (by decide) (hts (.fieldLink RX3 27 "RenameRows" "ring" "LRenameRows$Ring;") (by decide +kernel)) (fun _ h9 => h9) rfl dX3_wrong_43 ?_
  refine W.callR (W.runV (As := []) (rest := []) ⟨hx, hb, hml, hown, hts⟩ (c_X2_rowsSinceBeginning l dC dI cs a n f hB) (cwV 0 hts gX3_wrong_X2_rowsSinceBeginning rfl rfl rfl (by decide +kernel) ⟨Nat.le_of_ble_eq_true rfl, Nat.le_of_ble_eq_true rfl⟩) (rd_preV (q := (RX2, TX2, 10)) hP hK 2 rfl rfl) rfl rfl hl.1 rfl (lv_room (Nat.le_of_ble_eq_true rfl)) dX3_wrong_46 ⟨Nat.zero_le _, Nat.zero_le _⟩) ?_
  refine W.eq (g2 := F0 m 49 ls (.int (nI ((n 10) + (n 9))) :: [])) rfl ?_
  refine lv_aload_n hx hb dX3_wrong_49 rfl (lv_at hl 0 rfl) ?_
  refine va_get (D := (dC, dI)) (ci := 4) (v := .ref (a 3)) (C := RX3) (T := TX3) (N := 9) hx hb hts hinX3 hown hK hP 0 rfl rfl 2 (by decide) (hts (.fieldLink RX3 34 "RenameRows" "marks" "LRenameRows$Marks;") (by decide +kernel)) (fun _ h9 => h9) rfl dX3_wrong_50 ?_
  refine lv_iload_n hx hb dX3_wrong_53 rfl (lv_at hl 1 rfl) ?_
  refine W.callR (W.runV (As := [.int (nI j)]) (rest := [.int (nI ((n 10) + (n 9)))]) ⟨hx, hb, hml, hown, hts⟩ (c_X0_rowsBefore l dC dI cs a n f (nI j) hB) (cwV 1 hts gX3_wrong_X0_rowsBefore rfl rfl rfl (by decide +kernel) ⟨Nat.le_of_ble_eq_true rfl, Nat.le_of_ble_eq_true rfl⟩) (rd_preV (q := (RX0, TX0, 3)) hP hK 3 rfl rfl) rfl rfl hl.1 rfl (lv_room (Nat.le_of_ble_eq_true rfl)) dX3_wrong_54 ⟨Nat.zero_le _, Nat.zero_le _⟩) ?_
  refine W.eq (g2 := F0 m 57 ls (.int (x_bef f (nI j)) :: [.int (nI ((n 10) + (n 9)))])) rfl ?_
  refine tp_eq hbv1 ?_
  refine lv_isub hx hb dX3_wrong_57 ?_
  refine tp_eq (show _ = nI K by (rw [pk_sub (by omega)]; exact congrArg nI (by omega))) ?_
  refine lv_istore_n (lv' := [(2, .int (nI K)), (0, .ref (a 0)), (1, .int (nI j))]) hx hb dX3_wrong_58 rfl hl (by decide) rfl (fun ls hl => ?_)
  refine lv_iconst (v := nI 0) hx hb dX3_wrong_59 (by decide) ?_
  refine lv_istore_n (lv' := [(3, .int (nI 0)), (2, .int (nI K)), (0, .ref (a 0)), (1, .int (nI j))]) hx hb dX3_wrong_60 rfl hl (by decide) rfl (fun ls hl => ?_)
  have key : ∀ (i v : Nat) (N : Nat → Nat) (F : Nat → Nat → Int32), v + i = K → x_bd N → x_ws i N F → x_wk K n f = x_wk i N F → ∀ (H : Heap) (locs : List Loc), va_P (dC, dI) vwCl (wX cs a N F) H → va_D A (wX cs a N F) → va_S A s.heap H locs → ∀ ls : Array Slot, lv_has ls 4 [(3, .int (nI v)), (2, .int (nI K)), (0, .ref (a 0)), (1, .int (nI j))] → W p l e ({ frames := 3, cells := 0, slots := 0, locals := 65 } : Room) s m ([.ref (a 0), .int (nI j)] : List Value).toArray below meth c H locs 0 0 (MQ below (wrQ (dC, dI) vwCl (wX cs a (un (un (x_wk K n f).1 11 (t)) 3 ((x_wk K n f).1 3 + K)) (x_wk K n f).2) (some (.int (nI K))) A) ([.ref (a 0), .int (nI j)] : List Value).toArray s 0 0 A) (F0 m 61 ls []) := by
    intro k
    induction k with
    | zero =>
      intro v N F hv hB hsf hs H locs hP hD hS ls hl
      obtain ⟨E1, E2, E3, E4, E5, E6, E7, E8, E9, E10, E11, E12, E13, E14, E15⟩ := id hB
      refine lv_iload_n hx hb dX3_wrong_61 rfl (lv_at hl 0 rfl) ?_
      refine lv_iload_n hx hb dX3_wrong_62 rfl (lv_at hl 1 rfl) ?_
      refine lv_icmp_ge (tgt := 76) hx hb dX3_wrong_63 (by decide) (fun c_3 => ?_) (fun c_3 => absurd (nI_le (by omega) (by omega)) c_3)
      have c_3 : K ≤ v := (nI_leI (by omega) (by omega)).mp c_3
      rw [hs] at ht
      have ht : x_turn N F (nI j) = nI t := ht
      have htl : t < N 11 := by (rw [hs] at h4; exact h4)
      have h5 : N 3 + K < 1000000 := by (rw [hs] at h5; exact h5)
      refine lv_aload_n hx hb dX3_wrong_76 rfl (lv_at hl 2 rfl) ?_
      refine va_get (D := (dC, dI)) (ci := 4) (v := .ref (a 3)) (C := RX3) (T := TX3) (N := 9) hx hb hts hinX3 hown hK hP 0 rfl rfl 2 (by decide) (hts (.fieldLink RX3 34 "RenameRows" "marks" "LRenameRows$Marks;") (by decide +kernel)) (fun _ h9 => h9) rfl dX3_wrong_77 ?_
      refine lv_iload_n hx hb dX3_wrong_80 rfl (lv_at hl 3 rfl) ?_
      refine wr_callv (va_runV (As := [.int (nI j)]) (rest := []) ⟨hx, hb, hml, hown, hts⟩ (c_X0_releaseFrom l dC dI cs a N F H.size (nI j) t ht hB (by first | omega | assumption)) (cwV 1 hts gX3_wrong_X0_releaseFrom rfl rfl rfl (by decide +kernel) ⟨Nat.le_of_ble_eq_true rfl, Nat.le_of_ble_eq_true rfl⟩) (wr_preV (q := (RX0, TX0, 3)) hP hK hD 3 rfl rfl) rfl rfl hl.1 rfl (lv_room (Nat.le_of_ble_eq_true rfl)) dX3_wrong_81 ⟨Nat.zero_le _, Nat.zero_le _⟩) hS hD hA rfl (fun H locs hP hD hS => ?_)
      have hP : va_P (dC, dI) vwCl (wX cs a (un N 11 (t)) F) H := hP
      have hD : va_D A (wX cs a (un N 11 (t)) F) := hD
      refine lv_aload_n hx hb dX3_wrong_84 rfl (lv_at hl 2 rfl) ?_
      refine lv_dup hx hb dX3_wrong_85 rfl ?_
      refine va_get (D := (dC, dI)) (ci := 4) (v := .int (nI (N 3))) (C := RX3) (T := TX3) (N := 9) hx hb hts hinX3 hown hK hP 0 rfl rfl 6 (by decide) (hts (.fieldLink RX3 182 "RenameRows" "takenBack" "I") (by decide +kernel)) (fun _ h9 => h9) rfl dX3_wrong_86 ?_
      refine lv_iload_n hx hb dX3_wrong_89 rfl (lv_at hl 1 rfl) ?_
      refine lv_iadd hx hb dX3_wrong_90 ?_
      refine tp_eq (nI_add (N 3) K) ?_
      refine va_put (D := (dC, dI)) (ci := 4) (v := .int (nI ((N 3) + K))) (ty := .int) (C := RX3) (T := TX3) (N := 9) hx hb hts hinX3 tyX3 tyX3_ok nmX3 hown hK hP hD hS 0 rfl rfl 6 (by decide) (hts (.fieldLink RX3 182 "RenameRows" "takenBack" "I") (by decide +kernel)) (fun _ h9 => h9) rfl (by decide +kernel) rfl rfl (Nat.le_of_ble_eq_true rfl) dX3_wrong_91 (fun H locs hP hD hS => ?_)
      have hP : va_P (dC, dI) vwCl (wX cs a (un (un N 11 (t)) 3 ((N 3) + K)) F) H := hP
      have hD : va_D A (wX cs a (un (un N 11 (t)) 3 ((N 3) + K)) F) := hD
      refine lv_iload_n hx hb dX3_wrong_94 rfl (lv_at hl 1 rfl) ?_
      have hP : va_P (dC, dI) vwCl (wX cs a (un (un (x_wk K n f).1 11 (t)) 3 ((x_wk K n f).1 3 + K)) (x_wk K n f).2) H := by
        have e9 : (wX cs a (un (un N 11 (t)) 3 ((N 3) + K)) F) = (wX cs a (un (un (x_wk K n f).1 11 (t)) 3 ((x_wk K n f).1 3 + K)) (x_wk K n f).2) := by rw [hs]; rfl
        rw [← e9]; exact hP
      exact wr_iret hx hb hr hlocks hP hS dX3_wrong_95
    | succ k ih =>
      intro v N F hv hB hsf hs H locs hP hD hS ls hl
      obtain ⟨E1, E2, E3, E4, E5, E6, E7, E8, E9, E10, E11, E12, E13, E14, E15⟩ := id hB
      refine lv_iload_n hx hb dX3_wrong_61 rfl (lv_at hl 0 rfl) ?_
      refine lv_iload_n hx hb dX3_wrong_62 rfl (lv_at hl 1 rfl) ?_
      refine lv_icmp_ge (tgt := 76) hx hb dX3_wrong_63 (by decide) (fun c_4 => absurd ((nI_leI (by omega) (by omega)).mp c_4) (by omega)) (fun c_4 => ?_)
      have c_4 : ¬ K ≤ v := fun q => c_4 ((nI_leI (by omega) (by omega)).mpr q)
      obtain ⟨hpos, hts9, hB9, hS9⟩ := hsf
      refine lv_aload_n hx hb dX3_wrong_66 rfl (lv_at hl 2 rfl) ?_
      refine wr_callv (va_runV (As := []) (rest := []) ⟨hx, hb, hml, hown, hts⟩ (c_X3_takeBackLast l dC dI cs a N F H.size hB hpos hts9) (cwV 0 hts gX3_wrong_X3_takeBackLast rfl rfl rfl (by decide +kernel) ⟨Nat.le_of_ble_eq_true rfl, Nat.le_of_ble_eq_true rfl⟩) (wr_preV (q := (RX3, TX3, 9)) hP hK hD 0 rfl rfl) rfl rfl hl.1 rfl (lv_room (Nat.le_of_ble_eq_true rfl)) dX3_wrong_67 ⟨Nat.zero_le _, Nat.zero_le _⟩) hS hD hA rfl (fun H locs hP hD hS => ?_)
      have hP : va_P (dC, dI) vwCl (wX cs a (x_tbN N F) (x_tbF N F)) H := hP
      have hD : va_D A (wX cs a (x_tbN N F) (x_tbF N F)) := hD
      refine lv_iinc (v := nI (v + 1)) (lv' := [(3, .int (nI (v + 1))), (2, .int (nI K)), (0, .ref (a 0)), (1, .int (nI j))]) hx hb dX3_wrong_70 hl (k := 0) rfl (nI_succ v).symm (by decide) rfl (fun ls hl => ?_)
      refine lv_goto (tgt := 61) hx hb dX3_wrong_73 (by decide) ?_
      exact ih (v + 1) (x_tbN N F) (x_tbF N F) (by omega) hB9 hS9 (by rw [hs, x_wk]) H locs hP hD hS ls (lv_sub hl [0, 1, 2, 3] rfl)
  exact key K 0 n f (by omega) hB hsafe rfl _ _ hP hD hS ls (lv_sub hl [0, 1, 2, 3] rfl)
