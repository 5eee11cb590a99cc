theorem bm32 {n : Int} (h1 : -2147483648 ≤ n) (h2 : n < 2147483648) : n.bmod (2 ^ 32) = n := by
  rw [Int.bmod_def]; omega
theorem m_rsI (v : Int32) (sz : Nat) (h0 : 0 < sz) (h1 : sz < 1000) : (v - v / nI sz * nI sz).toInt = v.toInt.tmod sz := by
  have hn : (nI sz).toInt = sz := nI_toInt (by omega)
  have b1 := Int32.le_toInt v
  have b2 := Int32.toInt_lt v
  have e : (sz : Int) * v.toInt.tdiv sz + v.toInt.tmod sz = v.toInt := Int.mul_tdiv_add_tmod v.toInt sz
  have a1 : (v.toInt.tdiv sz).natAbs ≤ v.toInt.natAbs := Int.natAbs_tdiv_le_natAbs _ _
  have a2 : -(sz : Int) < v.toInt.tmod sz ∧ v.toInt.tmod sz < sz := tmod_bounds (by omega)
  have a3 : 0 ≤ v.toInt → 0 ≤ v.toInt.tmod sz := fun h => Int.tmod_nonneg _ h
  have a4 : v.toInt ≤ 0 → v.toInt.tmod sz ≤ 0 := fun h => by
    have := Int.tmod_nonneg (a := -v.toInt) (sz : Int) (by omega)
    rw [Int.neg_tmod] at this
    omega
  have c1 : 0 ≤ v.toInt → 0 ≤ v.toInt.tdiv sz := fun h => Int.tdiv_nonneg h (by omega)
  have hd : (v / nI sz).toInt = v.toInt.tdiv sz := by
    rw [Int32.toInt_div, hn]
    refine bm32 (by omega) ?_
    rcases Int.lt_or_le v.toInt 0 with h | h
    · have := Int.tdiv_nonneg (a := -v.toInt) (b := sz) (by omega) (by omega)
      rw [Int.neg_tdiv] at this
      omega
    · omega
  have hm : (v / nI sz * nI sz).toInt = v.toInt - v.toInt.tmod sz := by
    rw [Int32.toInt_mul, hd, hn]
    have : v.toInt.tdiv sz * sz = v.toInt - v.toInt.tmod sz := by rw [Int.mul_comm]; omega
    rw [this]
    exact bm32 (by omega) (by omega)
  rw [Int32.toInt_sub, hm]
  rw [show v.toInt - (v.toInt - v.toInt.tmod sz) = v.toInt.tmod sz by omega]
  exact bm32 (by omega) (by omega)
theorem m_tn (v : Int32) : (v.toInt = (v.toBitVec.toNat : Int) ∨ v.toInt = (v.toBitVec.toNat : Int) - 4294967296) ∧ v.toBitVec.toNat < 4294967296 := by
  refine ⟨?_, v.toBitVec.isLt⟩
  have h := BitVec.toInt_eq_toNat_cond v.toBitVec
  have e : v.toInt = v.toBitVec.toInt := rfl
  rw [e, h]
  split
  · exact Or.inl rfl
  · exact Or.inr rfl
theorem m_tm (a : Int) (sz : Int) : (0 ≤ a ∧ a.tmod sz = a % sz) ∨ (a < 0 ∧ a.tmod sz = -((-a) % sz)) := by
  rcases Int.lt_or_le a 0 with h | h
  · refine Or.inr ⟨h, ?_⟩
    have := Int.tmod_eq_emod_of_nonneg (a := -a) (b := sz) (by omega)
    rw [Int.neg_tmod] at this
    omega
  · exact Or.inl ⟨h, Int.tmod_eq_emod_of_nonneg h⟩
theorem m_rs32 (T : Nat) (a r : Int) (hT : T < 4294967296) (h : a = (T : Int) ∨ a = (T : Int) - 4294967296) (hr : (0 ≤ a ∧ r = a % 32) ∨ (a < 0 ∧ r = -((-a) % 32))) : (0 ≤ r → r = ((T % 32 : Nat) : Int)) ∧ (¬ 0 ≤ r → r + 32 = ((T % 32 : Nat) : Int) ∧ -32 ≤ r ∧ r < 0) := by
  omega
theorem m_rs64 (T : Nat) (a r : Int) (hT : T < 4294967296) (h : a = (T : Int) ∨ a = (T : Int) - 4294967296) (hr : (0 ≤ a ∧ r = a % 64) ∨ (a < 0 ∧ r = -((-a) % 64))) : (0 ≤ r → r = ((T % 64 : Nat) : Int)) ∧ (¬ 0 ≤ r → r + 64 = ((T % 64 : Nat) : Int) ∧ -64 ≤ r ∧ r < 0) := by
  omega
theorem m_rsg (v : Int32) {sz X : Nat} (h0 : 0 < sz) (h1 : sz < 1000) (hX : X < 1000) (hk : (0 ≤ v.toInt.tmod sz → v.toInt.tmod sz = (X : Int)) ∧ (¬ 0 ≤ v.toInt.tmod sz → v.toInt.tmod sz + sz = (X : Int) ∧ -(sz : Int) ≤ v.toInt.tmod sz ∧ v.toInt.tmod sz < 0)) :
    (0 ≤ v - v / nI sz * nI sz → v - v / nI sz * nI sz = nI X) ∧ (¬ 0 ≤ v - v / nI sz * nI sz → v - v / nI sz * nI sz + nI sz = nI X) := by
  have hr := m_rsI v sz h0 h1
  have hz : (0 : Int32).toInt = 0 := by decide
  have hXi : (nI X).toInt = (X : Int) := nI_toInt (by omega)
  have hn : (nI sz).toInt = sz := nI_toInt (by omega)
  constructor
  · intro h
    rw [Int32.le_iff_toInt_le, hr, hz] at h
    refine Int32.toInt_inj.mp ?_
    rw [hr, hXi]
    exact hk.1 h
  · intro h
    rw [Int32.le_iff_toInt_le, hr, hz] at h
    obtain ⟨q1, q2, q3⟩ := hk.2 h
    refine Int32.toInt_inj.mp ?_
    rw [Int32.toInt_add, hr, hXi, hn, q1]
    exact bm32 (by omega) (by omega)
theorem m_rs (v : Int32) {sz k : Nat} (hs : (sz = 32 ∧ k = 5) ∨ (sz = 64 ∧ k = 6)) : (0 ≤ v - v / nI sz * nI sz → v - v / nI sz * nI sz = nI (v.toBitVec.toNat % 2 ^ k)) ∧ (¬ 0 ≤ v - v / nI sz * nI sz → v - v / nI sz * nI sz + nI sz = nI (v.toBitVec.toNat % 2 ^ k)) := by
  obtain ⟨g1, g2⟩ := m_tn v
  rcases hs with ⟨rfl, rfl⟩ | ⟨rfl, rfl⟩
  · exact m_rsg v (by decide) (by decide) (Nat.lt_of_lt_of_le (Nat.mod_lt _ (by decide)) (by decide)) (m_rs32 v.toBitVec.toNat v.toInt _ g2 g1 (m_tm v.toInt 32))
  · exact m_rsg v (by decide) (by decide) (Nat.lt_of_lt_of_le (Nat.mod_lt _ (by decide)) (by decide)) (m_rs64 v.toBitVec.toNat v.toInt _ g2 g1 (m_tm v.toInt 64))
set_option maxHeartbeats 400000 in
theorem c_X4_rest (l : Launch) (dC : Nat → ClassId) (dI : Nat → Nat → Nat) (cs : ClassId × ClassId) (v : Int32) (sz k : Nat) (hs : (sz = 32 ∧ k = 5) ∨ (sz = 64 ∧ k = 6)) : Met l yX4_rest wsX4_rest ({ frames := 0, cells := 0, slots := 0, locals := 0 }) (rdPc (dC, dI) vwCl [] (tyl cs) [.int v, .int (nI sz)]) (QcRead (nI (v.toBitVec.toNat % 2 ^ k))) 0 0 (fun _ => False) := by
  refine rd_of (cc := cX4_rest) (maxL := 3) (ret := (some .int)) (own := RX4) (by decide) rfl rfl (Nat.le_of_ble_eq_true rfl) ?_
  intro p e s m below meth c hx hb hr hml hts hown hlocks hP hK ls hl
  have hl : lv_has ls 3 [(0, .int v), (1, .int (nI sz))] := hl
  refine lv_iload_n hx hb dX4_rest_0 rfl (lv_at hl 0 rfl) ?_
  refine lv_iload_n hx hb dX4_rest_1 rfl (lv_at hl 1 rfl) ?_
  refine lv_irem hx hb dX4_rest_2 (nI_ne0 (by omega) (by omega)) ?_
  refine lv_istore_n (lv' := [(2, .int (v - v / nI sz * nI sz)), (0, .int v), (1, .int (nI sz))]) hx hb dX4_rest_3 rfl hl (by decide) rfl (fun ls hl => ?_)
  refine lv_iload_n hx hb dX4_rest_4 rfl (lv_at hl 0 rfl) ?_
  refine lv_if_ge (tgt := 14) hx hb dX4_rest_5 (by decide) (fun c_1 => ?_) (fun c_1 => ?_)
  · refine lv_iload_n hx hb dX4_rest_14 rfl (lv_at hl 0 rfl) ?_
    refine tp_eq ((m_rs v hs).1 c_1) ?_
    exact rd_iret hx hb hr hlocks dX4_rest_15
  · refine lv_iload_n hx hb dX4_rest_8 rfl (lv_at hl 0 rfl) ?_
    refine lv_iload_n hx hb dX4_rest_9 rfl (lv_at hl 2 rfl) ?_
    refine lv_iadd hx hb dX4_rest_10 ?_
    refine lv_goto (tgt := 15) hx hb dX4_rest_11 (by decide) ?_
    refine tp_eq ((m_rs v hs).2 c_1) ?_
    exact rd_iret hx hb hr hlocks dX4_rest_15
theorem m_went : upd (upd (upd (upd (upd (upd (upd (upd (fun _ => (0 : Int32)) 0 (-1)) 1 (-1)) 2 (-1)) 3 (-1)) 4 (-1)) 5 (-1)) 6 (-1)) 7 (-1) = x_non 8 := by
  funext j
  unfold x_non
  by_cases h : j < 8
  · rw [if_pos h]
    rcases (show j = 0 ∨ j = 1 ∨ j = 2 ∨ j = 3 ∨ j = 4 ∨ j = 5 ∨ j = 6 ∨ j = 7 by omega) with rfl | rfl | rfl | rfl | rfl | rfl | rfl | rfl <;> rfl
  · rw [if_neg h]
    simp only [upd]
    rw [if_neg (by omega), if_neg (by omega), if_neg (by omega), if_neg (by omega), if_neg (by omega), if_neg (by omega), if_neg (by omega), if_neg (by omega)]
def m_n0 (R E N : Nat) : Nat → Nat := un (un (un (un (fun _ => 0) 1 R) 2 (R + E)) 3 N) 9 E
def m_h0 (R E : Nat) : Nat → Nat → Int32 := uf (uf (uf (uf (uf (uf (fun _ _ => 0) 4 (x_id R)) 5 (x_id R)) 6 (x_one R)) 7 (x_one R)) 8 (x_qu R E)) 24 (x_non 8)
