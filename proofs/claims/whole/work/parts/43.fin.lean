/-! my own: rows that leave -/
section
variable {c : Nat} {n g : Nat → Nat} {f h : Nat → Nat → Int32}
def Mid (c : Nat) (n : Nat → Nat) (f : Nat → Nat → Int32) (g : Nat → Nat) (h : Nat → Nat → Int32) : Prop := RA c n g ∧ RB n f h ∧ rb (n 7) (x_slot n) (f 9) (h 8) ∧ RD n f h ∧ RV n h
theorem Rel0_mid (r : Rel0 c n f g h) : Mid c n f g h := ⟨r.1, r.2.1, r.2.2.1, r.2.2.2.1, r.2.2.2.2.1⟩
theorem Mid_rel (r : Mid c n f g h) (rN : RN n h) : Rel0 c n f g h := ⟨r.1, r.2.1, r.2.2.1, r.2.2.2.1, r.2.2.2.2, rN⟩
theorem gx_1 {q : Nat} (e : f 7 q = nI 1) : x_gN n f q = un n 7 (n 7 + 1) ∧ x_gF n f q = uf (uf f 7 (upd (f 7) q (f 7 q - nI 1))) 9 (upd (f 9) (x_slot n (n 7)) (nI q)) := by
  have : f 7 q - nI 1 = 0 := by rw [e]; decide
  exact ⟨by rw [x_gN, if_pos this], by rw [x_gF, if_pos this]⟩
theorem gx_2 {q s : Nat} (e : f 7 q = nI s) (h1 : 1 < s) (h2 : s < 1000) : x_gN n f q = n ∧ x_gF n f q = uf f 7 (upd (f 7) q (f 7 q - nI 1)) := by
  have : ¬ f 7 q - nI 1 = 0 := by rw [e, nI_p1 (by omega)]; exact nI_ne0 (by omega) (by omega)
  exact ⟨by rw [x_gN, if_neg this], by rw [x_gF, if_neg this]⟩
theorem gm_1 {q : Nat} (e : h 6 q = nI 1) : m_gN g h q = un g 9 (g 9 + 1) ∧ m_gF g h q = uf (uf h 6 (upd (h 6) q (h 6 q - nI 1))) 8 (upd (h 8) (g 9) (nI q)) := by
  have : h 6 q - nI 1 ≤ 0 := by rw [e]; decide
  exact ⟨by rw [m_gN, if_pos this], by rw [m_gF, if_pos this]⟩
theorem gm_2 {q s : Nat} (e : h 6 q = nI s) (h1 : 1 < s) (h2 : s < 1000) : m_gN g h q = g ∧ m_gF g h q = uf h 6 (upd (h 6) q (h 6 q - nI 1)) := by
  have : ¬ h 6 q - nI 1 ≤ 0 := by rw [e, nI_p1 (by omega)]; exact nI_nle (by omega) (by omega)
  exact ⟨by rw [m_gN, if_neg this], by rw [m_gF, if_neg this]⟩
theorem give_mid {q s : Nat} (r : Mid c n f g h) (hq : q < n 1) (e : h 6 q = nI s) (h1 : 1 ≤ s) (h2 : s < 1000) (h7 : n 7 < n 1) : Mid c (x_gN n f q) (x_gF n f q) (m_gN g h q) (m_gF g h q) := by
  obtain ⟨rA, rB, rC, ⟨d0, d1, d2, d3, d4⟩, rV⟩ := r
  have hA := rA
  unfold RA at hA
  have e7 : f 7 q = nI s := by rw [d3 q hq]; exact e
  have ee : f 7 q - nI 1 = h 6 q - nI 1 := by rw [d3 q hq]
  by_cases c1 : s = 1
  · subst c1
    rw [(gx_1 e7).1, (gx_1 e7).2, (gm_1 e).1, (gm_1 e).2, ee]
    have e9 : g 9 = n 7 := by omega
    refine ⟨by unfold RA at rA ⊢; simp only [un]; simp; omega, rB, ?_, ⟨d0, d1, d2, ev_upd d3, d4⟩, rV⟩
    show rb (n 7 + 1) (x_slot n) (upd (f 9) (x_slot n (n 7)) (nI q)) (upd (h 8) (g 9) (nI q))
    rw [e9]
    exact rb_app rC (fun i hi => slot_inj (by omega) (by omega) (by omega) (by omega))
  · rw [(gx_2 e7 (by omega) h2).1, (gx_2 e7 (by omega) h2).2, (gm_2 e (by omega) h2).1, (gm_2 e (by omega) h2).2, ee]
    exact ⟨rA, rB, rC, ⟨d0, d1, d2, ev_upd d3, d4⟩, rV⟩
theorem give_iS {q s : Nat} {s0 s' : Nat → Nat} (hf : f 7 q = h 6 q) (e9 : g 9 = n 7) (hT : n 1 ≤ 96) (r : iS (n 1) (n 7) (h 6) (h 8) s0) (hq : q < n 1) (es : s0 q = s) (h1 : 1 ≤ s) (e : ∀ q1, q1 < n 1 → s' q1 + (if q1 = q then 1 else 0) = s0 q1) : iS (n 1) (x_gN n f q 7) (m_gF g h q 6) (m_gF g h q 8) s' := by
  have e6 := r.1 q hq
  rw [es] at e6
  have e7 : f 7 q = nI s := by rw [hf]; exact e6.1
  have eq := e q hq
  rw [if_pos rfl, es] at eq
  by_cases c1 : s = 1
  · subst c1
    rw [(gx_1 e7).1, (gm_1 e6.1).2, e9]
    exact iS_give r hT hq e (by omega)
  · rw [(gx_2 e7 (by omega) e6.2).1, (gm_2 e6.1 (by omega) e6.2).2]
    exact iS_keep r hq e (by omega)
theorem sl_lt {u : Nat → Int32} {k j : Nat} (hj : j < k) : x_sl u 0 k j = u (j + 1) := by
  unfold x_sl; rw [if_pos ⟨Nat.zero_le _, hj⟩]
theorem pos_sh {n n' : Nat → Nat} (h8 : n 8 < n 2) (e8 : n' 8 = x_pos n 1) (e2 : n' 2 = n 2) {i : Nat} (hi : i + 1 < n 2) : x_pos n' i = x_pos n (i + 1) := by
  unfold x_pos at *; rw [e8, e2]; split <;> split <;> split <;> omega
theorem old_mid (r : Mid c n f g h) (h9 : 0 < n 9) : Mid c (x_dN n) f (un (m_shN g) 25 (g 25 + 1)) (m_sh h (g 10 - 1)) := by
  obtain ⟨rA, ⟨b0, b1, b2, b3, b4, b5, b6⟩, rC, rD, rV⟩ := r
  have hA := rA
  unfold RA at hA
  have e10 : g 10 - 1 = n 9 - 1 := by omega
  obtain ⟨k, hk⟩ : ∃ k, n 9 = k + 1 := ⟨n 9 - 1, by omega⟩
  have hk1 : n 9 - 1 = k := by omega
  have p1 : x_pos n 1 < n 2 := x_pos_lt (by omega) (by omega)
  have hmod : (g 11 + 1) % g 3 = x_pos n 1 := by rw [← RA_pos rA (by omega)]; rfl
  rw [e10]
  have sh : ∀ {u v : Nat → Int32}, rb (n 9) (x_pos n) u v → rb (n 9 - 1) (x_pos (x_dN n)) u (x_sl v 0 (n 9 - 1)) := fun {u v} b => by
    rw [hk] at b
    rw [hk1]
    exact rb_sh b (fun i hi => pos_sh (n := n) (n' := x_dN n) (by omega) rfl rfl (by omega)) (fun i hi => sl_lt hi)
  refine ⟨?_, ⟨sh b0, sh b1, sh b2, sh b3, sh b4, sh b5, sh b6⟩, rC, rD, fun i hi => ?_⟩
  · unfold RA at rA ⊢
    unfold x_dN m_shN
    simp only [un]
    simp
    rw [hmod]
    omega
  · have hi' : i < n 9 - 1 := hi
    show okT (n 1) (x_sl (h 12) 0 (n 9 - 1) i) ∧ okT (n 1) (x_sl (h 13) 0 (n 9 - 1) i)
    rw [sl_lt hi', sl_lt hi']
    exact rV (i + 1) (by omega)
theorem Rel0_fin (r : Rel0 c n f g h) (h9 : 0 < n 9) : x_fs n f ∧ m_fs g h ∧ Rel0 c (x_fiN n f) (x_fiF n f) (m_stN g h) (m_stF g h) := by
  have rm := Rel0_mid r
  obtain ⟨rA, rB, rC, rD, rV, rR, rS⟩ := r
  have hA := rA
  unfold RA at hA
  have ep : x_pos n 0 = n 8 := by unfold x_pos; rw [if_pos (by omega)]; rfl
  have f14 : f 14 (n 8) = h 16 0 := by rw [← ep]; exact rB.2.2.2.2.1 0 h9
  have f12 : f 12 (n 8) = h 14 0 := by rw [← ep]; exact rB.2.2.1 0 h9
  have f13 : f 13 (n 8) = h 15 0 := by rw [← ep]; exact rB.2.2.2.1 0 h9
  obtain ⟨k, hk⟩ : ∃ k, n 9 = k + 1 := ⟨n 9 - 1, by omega⟩
  have hk1 : g 10 - 1 = k := by omega
  have hk2 : n 9 - 1 = k := by omega
  rcases rR.1 0 h9 with ⟨e1, e2⟩ | ⟨r0, q', hr0, hq', e1, e2⟩
  · refine ⟨Or.inl (by rw [f14]; exact e1), Or.inl e1, ?_⟩
    rw [x_fiN, x_fiF, f14, if_pos e1, if_pos e1, m_stN, m_stF, m_cgN, m_cgF, if_pos e1, if_pos e1]
    refine Mid_rel (old_mid rm h9) ⟨?_, ?_⟩
    · show iR (n 0) (n 1) (n 9 - 1) (h 4) (h 5) (x_sl (h 14) 0 (g 10 - 1)) (x_sl (h 15) 0 (g 10 - 1)) (x_sl (h 16) 0 (g 10 - 1))
      rw [hk1, hk2]
      rw [hk] at rR
      exact iR_old0 rR (by omega) (fun j hj => ⟨sl_lt hj, sl_lt hj, sl_lt hj⟩) e1
    · show iS (n 1) (n 7) (h 6) (h 8) (sc (h 5) (x_sl (h 16) 0 (g 10 - 1)) (x_sl (h 14) 0 (g 10 - 1)) (n 0) (n 9 - 1))
      rw [hk1, hk2]
      refine iS_ext rS (fun q hq => ?_)
      rw [hk]
      exact sc_old0 (fun j hj => ⟨sl_lt hj, sl_lt hj⟩) e1
  · obtain ⟨q, hq, e3⟩ := rR.2.1 r0 hr0
    have e4 : h 15 0 = nI q := by rw [rR.2.2.1 0 r0 h9 hr0 e1]; exact e3
    have ne : ¬ h 16 0 = -1 := by rw [e1]; exact nI_m1 (by omega)
    obtain ⟨q2, _, e5, e6⟩ := cur_name rR hr0 (by omega) 0 (Nat.zero_le _)
    have : q2 = q := by
      have e8 : nI q2 = nI q := by rw [← e5]; exact e3
      exact (nI_eq (by omega) (by omega)).mp e8
    subst this
    have hroom : n 7 < n 1 := iS_room rS (by omega) hq e6
    have e7 : f 7 q2 = h 6 q2 := rD.2.2.2.1 q2 hq
    have hs := rS.1 q2 hq
    refine ⟨Or.inr ⟨r0, q2, by rw [f14]; exact e1, hr0, by rw [f13]; exact e4, hq, by rw [e7, hs.1]; exact nI_ne0 e6 (by omega), hroom⟩, Or.inr ⟨r0, q2, e1, by omega, e4, by omega, by omega⟩, ?_⟩
    have rm5 : Mid c n (uf f 5 (upd (f 5) r0 (h 14 0))) g (uf h 5 (upd (h 5) r0 (h 14 0))) := by
      obtain ⟨_, _, _, ⟨d0, d1, d2, d3, d4⟩, _⟩ := rm
      exact ⟨rA, rB, rC, ⟨d0, ev_upd d1, d2, d3, d4⟩, rV⟩
    have x5 : x_f5 n f = uf f 5 (upd (f 5) r0 (h 14 0)) := by rw [x_f5, f14, f12, e1, cl32_nI (by omega)]
    have m5 : m_s5 h = uf h 5 (upd (h 5) r0 (h 14 0)) := by rw [m_s5, e1, cl32_nI (by omega)]
    have rg := give_mid rm5 hq hs.1 e6 hs.2 hroom
    rw [x_fiN, x_fiF, f14, if_neg ne, if_neg ne, f13, e4, cl32_nI (by omega), x5, m_stN, m_stF, m_cgN, m_cgF, if_neg ne, if_neg ne, e4, cl32_nI (by omega), m5]
    have g9 : x_gN n (uf f 5 (upd (f 5) r0 (h 14 0))) q2 9 = n 9 := x_gN_o (by decide)
    have g10 : m_gN g (uf h 5 (upd (h 5) r0 (h 14 0))) q2 10 = g 10 := m_gN_o (by decide)
    refine Mid_rel (old_mid rg (by rw [g9]; exact h9)) ⟨?_, ?_⟩
    · show iR (x_gN n (uf f 5 (upd (f 5) r0 (h 14 0))) q2 0) (x_gN n (uf f 5 (upd (f 5) r0 (h 14 0))) q2 1) (x_gN n (uf f 5 (upd (f 5) r0 (h 14 0))) q2 9 - 1) (m_gF g (uf h 5 (upd (h 5) r0 (h 14 0))) q2 4) (m_gF g (uf h 5 (upd (h 5) r0 (h 14 0))) q2 5) (x_sl (m_gF g (uf h 5 (upd (h 5) r0 (h 14 0))) q2 14) 0 (m_gN g (uf h 5 (upd (h 5) r0 (h 14 0))) q2 10 - 1)) (x_sl (m_gF g (uf h 5 (upd (h 5) r0 (h 14 0))) q2 15) 0 (m_gN g (uf h 5 (upd (h 5) r0 (h 14 0))) q2 10 - 1)) (x_sl (m_gF g (uf h 5 (upd (h 5) r0 (h 14 0))) q2 16) 0 (m_gN g (uf h 5 (upd (h 5) r0 (h 14 0))) q2 10 - 1))
      rw [g9, g10, x_gN_o (k := 0) (by decide), x_gN_o (k := 1) (by decide), m_gF_o (k := 4) (by decide) (by decide), m_gF_o (k := 5) (by decide) (by decide), m_gF_o (k := 14) (by decide) (by decide), m_gF_o (k := 15) (by decide) (by decide), m_gF_o (k := 16) (by decide) (by decide), hk1, hk2]
      rw [hk] at rR
      exact iR_old rR (by omega) (fun j hj => ⟨sl_lt hj, sl_lt hj, sl_lt hj⟩) hr0 e1
    · show iS (x_gN n (uf f 5 (upd (f 5) r0 (h 14 0))) q2 1) (x_gN n (uf f 5 (upd (f 5) r0 (h 14 0))) q2 7) (m_gF g (uf h 5 (upd (h 5) r0 (h 14 0))) q2 6) (m_gF g (uf h 5 (upd (h 5) r0 (h 14 0))) q2 8) (sc (m_gF g (uf h 5 (upd (h 5) r0 (h 14 0))) q2 5) (x_sl (m_gF g (uf h 5 (upd (h 5) r0 (h 14 0))) q2 16) 0 (m_gN g (uf h 5 (upd (h 5) r0 (h 14 0))) q2 10 - 1)) (x_sl (m_gF g (uf h 5 (upd (h 5) r0 (h 14 0))) q2 14) 0 (m_gN g (uf h 5 (upd (h 5) r0 (h 14 0))) q2 10 - 1)) (x_gN n (uf f 5 (upd (f 5) r0 (h 14 0))) q2 0) (x_gN n (uf f 5 (upd (f 5) r0 (h 14 0))) q2 9 - 1))
      rw [g9, g10, x_gN_o (k := 0) (by decide), x_gN_o (k := 1) (by decide), m_gF_o (k := 5) (by decide) (by decide), m_gF_o (k := 14) (by decide) (by decide), m_gF_o (k := 16) (by decide) (by decide), hk1, hk2]
      refine give_iS (s0 := sc (h 5) (h 16) (h 14) (n 0) (n 9)) (h := uf h 5 (upd (h 5) r0 (h 14 0))) e7 (by omega) (by omega) rS hq rfl e6 (fun q1 hq1 => ?_)
      rw [hk]
      exact sc_old (fun j hj => ⟨sl_lt hj, sl_lt hj⟩) hr0 (by omega) e1 e3 (by omega) (by omega)
theorem fin_n : x_fiN n f 9 = n 9 - 1 ∧ x_fiN n f 10 = n 10 + 1 ∧ x_fiN n f 11 = n 11 := by
  unfold x_fiN
  split
  · exact ⟨rfl, rfl, rfl⟩
  · refine ⟨?_, ?_, ?_⟩
    · show x_gN _ _ _ 9 - 1 = _
      rw [x_gN_o (by decide)]
    · show x_gN _ _ _ 10 + 1 = _
      rw [x_gN_o (by decide)]
    · show x_gN _ _ _ 11 = _
      rw [x_gN_o (by decide)]
theorem fin_f : x_fiF n f 17 = f 17 ∧ x_fiF n f 18 = f 18 := by
  unfold x_fiF
  split
  · exact ⟨rfl, rfl⟩
  · exact ⟨by rw [x_gF_o (by decide) (by decide)]; rfl, by rw [x_gF_o (by decide) (by decide)]; rfl⟩
theorem fin_g : m_stN g h 22 = g 22 := by
  unfold m_stN m_cgN
  split
  · rfl
  · show m_gN _ _ _ 22 = _
    rw [m_gN_o (by decide)]
theorem fin_h {k : Nat} (hk : k = 19 ∨ k = 20 ∨ k = 21) : m_stF g h k = h k := by
  unfold m_stF m_cgF
  split
  · rcases hk with rfl | rfl | rfl <;> rfl
  · rcases hk with rfl | rfl | rfl
    · show m_gF _ _ _ 19 = _
      rw [m_gF_o (by decide) (by decide)]; rfl
    · show m_gF _ _ _ 20 = _
      rw [m_gF_o (by decide) (by decide)]; rfl
    · show m_gF _ _ _ 21 = _
      rw [m_gF_o (by decide) (by decide)]; rfl
end
