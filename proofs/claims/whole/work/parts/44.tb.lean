/-! my own: rows taken back; commit -/
section
variable {c : Nat} {n g : Nat → Nat} {f h : Nat → Nat → Int32}
theorem gN_comm {v q : Nat} {u : Nat → Int32} : m_gN (un g 10 v) (uf h 4 u) q = un (m_gN g h q) 10 v := by
  unfold m_gN
  have e : uf h 4 u 6 q = h 6 q := rfl
  rw [e]
  split
  · funext k
    show (if k = 9 then g 9 + 1 else if k = 10 then v else g k) = (if k = 10 then v else if k = 9 then g 9 + 1 else g k)
    by_cases c1 : k = 9
    · subst c1; rfl
    · rw [if_neg c1, if_neg c1]
  · rfl
theorem gF_comm {v q : Nat} {u : Nat → Int32} : m_gF (un g 10 v) (uf h 4 u) q = uf (m_gF g h q) 4 u := by
  unfold m_gF
  have e : uf h 4 u 6 q = h 6 q := rfl
  rw [e]
  split
  · funext k
    show (if k = 8 then upd (h 8) (g 9) (nI q) else if k = 6 then upd (h 6) q (h 6 q - nI 1) else if k = 4 then u else h k) = (if k = 4 then u else if k = 8 then upd (h 8) (g 9) (nI q) else if k = 6 then upd (h 6) q (h 6 q - nI 1) else h k)
    by_cases c1 : k = 8
    · subst c1; rfl
    · by_cases c2 : k = 6
      · subst c2; rfl
      · rw [if_neg c1, if_neg c2, if_neg c1, if_neg c2]
  · funext k
    show (if k = 6 then upd (h 6) q (h 6 q - nI 1) else if k = 4 then u else h k) = (if k = 4 then u else if k = 6 then upd (h 6) q (h 6 q - nI 1) else h k)
    by_cases c2 : k = 6
    · subst c2; rfl
    · rw [if_neg c2, if_neg c2]
theorem last_mid (r : Mid c n f g h) (h9 : 0 < n 9) : Mid c (x_lN n) f (un g 10 (g 10 - 1)) h := by
  obtain ⟨rA, ⟨b0, b1, b2, b3, b4, b5, b6⟩, rC, rD, rV⟩ := r
  have hA := rA
  unfold RA at hA
  have le : n 9 - 1 ≤ n 9 := by omega
  refine ⟨?_, ⟨rb_le b0 le, rb_le b1 le, rb_le b2 le, rb_le b3 le, rb_le b4 le, rb_le b5 le, rb_le b6 le⟩, rC, rD, fun i hi => ?_⟩
  · unfold RA at rA ⊢
    unfold x_lN
    simp only [un]
    simp
    omega
  · have hi' : i < n 9 - 1 := hi
    exact rV i (by omega)
theorem Rel0_tb (r : Rel0 c n f g h) (h9 : 0 < n 9) : x_ts n f ∧ m_ts g h ∧ Rel0 c (x_tbN n f) (x_tbF n f) (m_wN g h) (m_wF g h) := by
  have rm := Rel0_mid r
  obtain ⟨rA, rB, rC, rD, rV, rR, rS⟩ := r
  have hA := rA
  unfold RA at hA
  obtain ⟨k, hk⟩ : ∃ k, n 9 = k + 1 := ⟨n 9 - 1, by omega⟩
  have hk1 : g 10 - 1 = k := by omega
  have hk2 : n 9 - 1 = k := by omega
  have ep : x_lp n = x_pos n k := by unfold x_lp; rw [hk2]
  have f14 : f 14 (x_lp n) = h 16 k := by rw [ep]; exact rB.2.2.2.2.1 k (by omega)
  have f12 : f 12 (x_lp n) = h 14 k := by rw [ep]; exact rB.2.2.1 k (by omega)
  have f13 : f 13 (x_lp n) = h 15 k := by rw [ep]; exact rB.2.2.2.1 k (by omega)
  rcases rR.1 k (by omega) with ⟨e1, e2⟩ | ⟨r0, q, hr0, hq, e1, e2⟩
  · refine ⟨Or.inl (by rw [f14]; exact e1), Or.inl (by rw [hk1]; exact e1), ?_⟩
    rw [x_tbN, x_tbF, f14, if_pos e1, if_pos e1, m_wN, m_wF, hk1, if_pos e1, if_pos e1, ← hk1]
    refine Mid_rel (last_mid rm h9) ⟨?_, ?_⟩
    · show iR (n 0) (n 1) (n 9 - 1) (h 4) (h 5) (h 14) (h 15) (h 16)
      rw [hk2]
      rw [hk] at rR
      exact iR_last0 rR (by omega) e1
    · show iS (n 1) (n 7) (h 6) (h 8) (sc (h 5) (h 16) (h 14) (n 0) (n 9 - 1))
      rw [hk2]
      refine iS_ext rS (fun q hq => ?_)
      rw [hk, sc_last]
      simp [e1]
  · have ne : ¬ h 16 k = -1 := by rw [e1]; exact nI_m1 (by omega)
    have e6 : 0 < sc (h 5) (h 16) (h 14) (n 0) (n 9) q := by
      rw [hk, sc_last]
      simp [ne, e2]
    have hroom : n 7 < n 1 := iS_room rS (by omega) hq e6
    have e7 : f 7 q = h 6 q := rD.2.2.2.1 q hq
    have hs := rS.1 q hq
    refine ⟨Or.inr ⟨r0, q, by rw [f14]; exact e1, hr0, by rw [f12]; exact e2, hq, by rw [e7, hs.1]; exact nI_ne0 e6 (by omega), hroom⟩, Or.inr ⟨r0, q, by rw [hk1]; exact e1, by omega, by rw [hk1]; exact e2, by omega, by omega⟩, ?_⟩
    have rg := last_mid (give_mid rm hq hs.1 e6 hs.2 hroom) (by rw [x_gN_o (by decide)]; exact h9)
    have m4 : m_w4 g h = uf h 4 (upd (h 4) r0 (h 15 k)) := by rw [m_w4, hk1, e1, cl32_nI (by omega)]
    have g10 : m_gN g h q 10 = g 10 := m_gN_o (by decide)
    rw [x_tbN, x_tbF, f14, if_neg ne, if_neg ne, f12, e2, cl32_nI (by omega), f13, e1, cl32_nI (by omega), m_wN, m_wF, hk1, if_neg ne, if_neg ne, m4, e2, cl32_nI (by omega), gN_comm, gF_comm]
    rw [g10, hk1] at rg
    obtain ⟨rgA, rgB, rgC, ⟨d0, d1, d2, d3, d4⟩, rgV⟩ := rg
    have h4 : m_gF g h q 4 = h 4 := m_gF_o (by decide) (by decide)
    have g9 : x_gN n f q 9 = n 9 := x_gN_o (by decide)
    refine Mid_rel ⟨rgA, rgB, rgC, ⟨?_, d1, d2, d3, d4⟩, rgV⟩ ⟨?_, ?_⟩
    · rw [← h4]; exact ev_upd d0
    · show iR (x_gN n f q 0) (x_gN n f q 1) (x_gN n f q 9 - 1) (upd (h 4) r0 (h 15 k)) (m_gF g h q 5) (m_gF g h q 14) (m_gF g h q 15) (m_gF g h q 16)
      rw [g9, x_gN_o (k := 0) (by decide), x_gN_o (k := 1) (by decide), m_gF_o (k := 5) (by decide) (by decide), m_gF_o (k := 14) (by decide) (by decide), m_gF_o (k := 15) (by decide) (by decide), m_gF_o (k := 16) (by decide) (by decide), hk2]
      rw [hk] at rR
      exact iR_last rR (by omega) hr0 e1
    · show iS (x_gN n f q 1) (x_gN n f q 7) (m_gF g h q 6) (m_gF g h q 8) (sc (m_gF g h q 5) (m_gF g h q 16) (m_gF g h q 14) (x_gN n f q 0) (x_gN n f q 9 - 1))
      rw [g9, x_gN_o (k := 0) (by decide), x_gN_o (k := 1) (by decide), m_gF_o (k := 5) (by decide) (by decide), m_gF_o (k := 14) (by decide) (by decide), m_gF_o (k := 16) (by decide) (by decide), hk2]
      refine give_iS (s0 := sc (h 5) (h 16) (h 14) (n 0) (n 9)) e7 (by omega) (by omega) rS hq rfl e6 (fun q1 hq1 => ?_)
      have n2 : (nI q = nI q1) ↔ q1 = q := by
        rw [nI_eq (by omega) (by omega)]
        exact ⟨fun x => x.symm, fun x => x.symm⟩
      rw [hk, sc_last, e2]
      simp only [ne, n2, decide_false, Bool.not_false, Bool.true_and, decide_eq_true_eq]
theorem tb_n {k : Nat} (hk : k ≠ 7) (h2 : k ≠ 9) : x_tbN n f k = n k := by
  unfold x_tbN
  split
  · show un n 9 _ k = n k
    exact un_n h2
  · show un (x_gN _ _ _) 9 _ k = n k
    rw [un_n h2, x_gN_o hk]
theorem tb_9 : x_tbN n f 9 = n 9 - 1 := by
  unfold x_tbN
  split
  · rfl
  · show x_gN _ _ _ 9 - 1 = _
    rw [x_gN_o (by decide)]
theorem tb_f {k : Nat} (hk : k ≠ 4) (h2 : k ≠ 7) (h3 : k ≠ 9) : x_tbF n f k = f k := by
  unfold x_tbF
  split
  · rfl
  · rw [uf_n hk, x_gF_o h2 h3]
/-- K rows taken back -/
theorem tb_all : ∀ (K : Nat) (n g : Nat → Nat) (f h : Nat → Nat → Int32), Rel0 c n f g h → K ≤ n 9 → x_ws K n f ∧ m_ws K g h ∧ Rel0 c (x_wk K n f).1 (x_wk K n f).2 (m_wk K g h).1 (m_wk K g h).2 ∧ (x_wk K n f).1 9 = n 9 - K ∧ (∀ k, k ≠ 7 → k ≠ 9 → (x_wk K n f).1 k = n k) ∧ (x_wk K n f).2 17 = f 17 ∧ (x_wk K n f).2 18 = f 18 ∧ (m_wk K g h).1 22 = g 22 ∧ (∀ k, k = 19 ∨ k = 20 ∨ k = 21 → (m_wk K g h).2 k = h k)
  | 0, n, g, f, h, r, _ => ⟨trivial, trivial, r, rfl, fun _ _ _ => rfl, rfl, rfl, rfl, fun _ _ => rfl⟩
  | K + 1, n, g, f, h, r, hK => by
    have hA := r.1
    unfold RA at hA
    obtain ⟨t1, t2, t3⟩ := Rel0_tb r (by omega)
    obtain ⟨s1, s2, s3, s4, s5, s6, s7, s8, s9⟩ := tb_all K _ _ _ _ t3 (by rw [tb_9]; omega)
    refine ⟨⟨by omega, t1, RA_x t3.1, s1⟩, ⟨by omega, t2, RA_m t3.1, s2⟩, s3, ?_, fun k h1 h2 => ?_, ?_, ?_, ?_, fun k hk => ?_⟩
    · show (x_wk K _ _).1 9 = _
      rw [s4, tb_9]; omega
    · show (x_wk K _ _).1 k = _
      rw [s5 k h1 h2, tb_n h1 h2]
    · show (x_wk K _ _).2 17 = _
      rw [s6, tb_f (by decide) (by decide) (by decide)]
    · show (x_wk K _ _).2 18 = _
      rw [s7, tb_f (by decide) (by decide) (by decide)]
    · show (m_wk K _ _).1 22 = _
      rw [s8, m_wN_o (by decide) (by decide)]
    · show (m_wk K _ _).2 k = _
      rw [s9 k hk, m_wF_o (by omega) (by omega) (by omega)]
/-! marks -/
theorem turn_eq {d e k B : Nat} {be tu mkd bh ah : Nat → Int32} (r : RM d e k B be tu mkd bh ah) (hk : k ≤ 8) (h11 : n 11 = k) (h18 : f 18 = tu) {j : Nat} (hj : j < 8) : (mkd j = 0 ∧ x_turn n f (nI j) = -1) ∨ (¬ mkd j = 0 ∧ ∃ t, t < k ∧ x_turn n f (nI j) = nI t ∧ tu t = nI j) := by
  obtain ⟨mk, bf, ag, h1, h2, h3⟩ := r
  unfold x_turn
  rw [h11]
  rcases x_tf_lt (f := f) (x := nI j) k 0 (by omega) with e | ⟨t, _, ht, e, e2, _⟩
  · by_cases c1 : mkd j = 0
    · exact Or.inl ⟨c1, e⟩
    · obtain ⟨t, ht, e2⟩ := h3 j hj c1
      exfalso
      have : ∀ (k i : Nat), i + k < 100 → i ≤ t → t < i + k → ¬ x_tf f (nI j) k i = -1 := by
        intro k
        induction k with
        | zero => intro i _ h1 h2; omega
        | succ k ih =>
          intro i hi h4 h5
          by_cases c2 : f 18 i = nI j
          · rw [x_tf, if_pos c2]; exact nI_m1 (by omega)
          · rw [x_tf, if_neg c2]
            by_cases c3 : i = t
            · subst c3
              exact absurd (by rw [h18, (h1 i ht).2.1, e2]) c2
            · exact ih (i + 1) (by omega) (by omega) (by omega)
      exact this k 0 (by omega) (by omega) (by omega) e
  · refine Or.inr ⟨?_, t, by omega, e, by rw [← h18]; exact e2⟩
    have a := h1 t (by omega)
    rw [h18, a.2.1] at e2
    have := (nI_eq (by omega) (by omega)).mp e2
    rw [← this]; exact a.2.2.1
theorem bl_spec : ∀ (k j : Nat) (x : Int32), m_bl h k j x ≤ x ∧ (∀ i, j ≤ i → i < j + k → ¬ h 19 i = 0 → m_bl h k j x ≤ h 20 i) ∧ (m_bl h k j x = x ∨ ∃ i, j ≤ i ∧ i < j + k ∧ ¬ h 19 i = 0 ∧ m_bl h k j x = h 20 i)
  | 0, j, x => ⟨Int32.le_refl x, fun i h1 h2 => absurd h2 (by omega), Or.inl rfl⟩
  | k + 1, j, x => by
    rw [m_bl]
    obtain ⟨s1, s2, s3⟩ := bl_spec k (j + 1) (if (!decide (h 19 j = 0) && decide (h 20 j < x)) = true then h 20 j else x)
    generalize m_bl h k (j + 1) (if (!decide (h 19 j = 0) && decide (h 20 j < x)) = true then h 20 j else x) = y at s1 s2 s3
    by_cases c1 : (!decide (h 19 j = 0) && decide (h 20 j < x)) = true
    · rw [if_pos c1] at s1 s3
      simp only [Bool.and_eq_true, Bool.not_eq_true', decide_eq_false_iff_not, decide_eq_true_eq] at c1
      rw [Int32.le_iff_toInt_le] at s1
      have c2 := c1.2
      rw [Int32.lt_iff_toInt_lt] at c2
      refine ⟨by rw [Int32.le_iff_toInt_le]; omega, fun i hi hi2 hm => ?_, ?_⟩
      · by_cases ci : i = j
        · subst ci; rw [Int32.le_iff_toInt_le]; exact s1
        · exact s2 i (by omega) (by omega) hm
      · rcases s3 with s3 | ⟨i, a1, a2, a3, a4⟩
        · exact Or.inr ⟨j, by omega, by omega, c1.1, s3⟩
        · exact Or.inr ⟨i, by omega, by omega, a3, a4⟩
    · rw [if_neg c1] at s1 s3
      refine ⟨s1, fun i hi hi2 hm => ?_, ?_⟩
      · by_cases ci : i = j
        · subst ci
          have : ¬ h 20 i < x := fun q => c1 (by simp [hm, q])
          rw [Int32.le_iff_toInt_le] at s1 ⊢
          rw [Int32.lt_iff_toInt_lt] at this
          omega
        · exact s2 i (by omega) (by omega) hm
      · rcases s3 with s3 | ⟨i, a1, a2, a3, a4⟩
        · exact Or.inl s3
        · exact Or.inr ⟨i, by omega, by omega, a3, a4⟩
theorem bnd_eq {d e k B : Nat} {be tu : Nat → Int32} (r : RM d e k B be tu (h 19) (h 20) (h 21)) (he : e < 1000000) (hd : d ≤ e) : nI d < m_bnd h ↔ (k = 0 ∨ ∃ mk0 b0, tu 0 = nI mk0 ∧ mk0 < 8 ∧ be mk0 = nI b0 ∧ d < b0 ∧ b0 ≤ e) := by
  obtain ⟨mk, bf, ag, h1, h2, h3⟩ := r
  obtain ⟨s1, s2, s3⟩ := bl_spec (h := h) 8 0 2147483647
  have hd1 : (nI d).toInt = d := nI_toInt (by omega)
  constructor
  · intro q
    by_cases ck : k = 0
    · exact Or.inl ck
    · obtain ⟨a1, a2, a3, a4, a5, a6, a7, a8, a9⟩ := h1 0 (by omega)
      refine Or.inr ⟨mk 0, bf 0, a2, a1, a4, ?_, a8⟩
      have := s2 (mk 0) (by omega) (by omega) a3
      rw [a5, Int32.le_iff_toInt_le, nI_toInt (show bf 0 < 2 ^ 31 by omega)] at this
      unfold m_bnd at q
      rw [Int32.lt_iff_toInt_lt, hd1] at q
      omega
  · intro q
    unfold m_bnd
    rw [Int32.lt_iff_toInt_lt, hd1]
    rcases s3 with s3 | ⟨i, b1, b2, b3, b4⟩
    · rw [s3]
      have : (2147483647 : Int32).toInt = 2147483647 := by decide
      rw [this]; omega
    · obtain ⟨t, ht, et⟩ := h3 i (by omega) b3
      obtain ⟨a1, a2, a3, a4, a5, a6, a7, a8, a9⟩ := h1 t ht
      rw [b4, ← et, a5, nI_toInt (by omega)]
      rcases q with q | ⟨mk0, b0, q1, q2, q3, q4, q5⟩
      · omega
      · obtain ⟨z1, z2, z3, z4, z5, z6, z7, z8, z9⟩ := h1 0 (by omega)
        have e1 : mk0 = mk 0 := (nI_eq (by omega) (by omega)).mp (by rw [← q1, z2])
        subst e1
        have e2 : b0 = bf 0 := (nI_eq (by omega) (by omega)).mp (by rw [← q3, z4])
        subst e2
        by_cases ct : t = 0
        · subst ct; omega
        · have := h2 0 t (by omega) ht
          omega
end
