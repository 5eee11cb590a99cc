/-! my own: rows that come -/
section
variable {c : Nat} {n g : Nat → Nat} {f h : Nat → Nat → Int32}
theorem x_apF_0 {ra rb rg rs : Int32} : x_apF n f ra rb rg (-1) rs = x_app n f ra rb rg (-1) (-1) rs := by
  have e : x_cur n f (-1) = -1 := by rw [x_cur, inB_m1]; simp
  rw [x_apF, inB_m1, e]; simp
theorem x_apF_r {ra rb rg rs : Int32} {r : Nat} (hr : r < n 0) (hn : n 0 ≤ 32) : x_apF n f ra rb rg (nI r) rs = uf (x_app n f ra rb rg (f 4 r) (nI r) rs) 4 (upd (f 4) r rg) := by
  have e : inB (nI r) (n 0) = true := by rw [inB_nI (by omega) (by omega)]; simp [hr]
  have e2 : x_cur n f (nI r) = f 4 r := by rw [x_cur, e, cl32_nI (by omega)]; simp
  rw [x_apF, e, e2, cl32_nI (by omega)]; simp
theorem cur_eq (r : Rel0 c n f g h) {x : Int32} (v : (decide (x = -1) || inB x (n 0)) = true) : x_cur n f x = m_cur g h x ∧ okT (n 1) (x_cur n f x) := by
  have hA := r.1
  unfold RA at hA
  have e1 : g 1 = n 0 := by omega
  by_cases c1 : inB x (n 0) = true
  · obtain ⟨j, hj, rfl⟩ := inB_t c1 (by omega)
    have e2 : x_cur n f (nI j) = f 4 j := by rw [x_cur, c1, cl32_nI (by omega)]; simp
    have e3 : m_cur g h (nI j) = h 4 j := by rw [m_cur, e1, c1, cl32_nI (by omega)]; simp
    have e4 : f 4 j = h 4 j := r.2.2.2.1.1 j hj
    have e5 : h 4 j = cur (h 5) (h 16) (h 14) j (n 9) := r.2.2.2.2.2.1.2.2.2 j hj
    obtain ⟨q, hq, e6, _⟩ := cur_name r.2.2.2.2.2.1 hj (by omega) (n 9) (Nat.le_refl _)
    exact ⟨by rw [e2, e3, e4], Or.inr ⟨q, hq, by rw [e2, e4, e5, e6]⟩⟩
  · have e2 : x_cur n f x = -1 := by rw [x_cur, if_neg c1]
    have e3 : m_cur g h x = -1 := by rw [m_cur, e1, if_neg c1]
    exact ⟨by rw [e2, e3], Or.inl e2⟩
theorem RB_app {ra rb rg rk rt rs : Int32} (r : RB n f h) (h8 : n 8 < n 2) (h9 : n 9 < n 2) (e : g 10 = n 9) {n' : Nat → Nat} (e8 : n' 8 = n 8) (e2 : n' 2 = n 2) (e9 : n' 9 = n 9 + 1) : RB n' (x_app n f ra rb rg rk rt rs) (m_aF g h ra rb rg rk rt rs) := by
  have hp : ∀ i, i < n 9 → x_pos n i ≠ x_pos n (n 9) := fun i hi => pos_inj h8 (by omega) (by omega) (by omega)
  have ep : x_pos n' = x_pos n := by funext i; unfold x_pos; rw [e8, e2]
  obtain ⟨b0, b1, b2, b3, b4, b5, b6⟩ := r
  unfold RB
  rw [e9, ep]
  unfold m_aF
  rw [e]
  exact ⟨rb_app b0 hp, rb_app b1 hp, rb_app b2 hp, rb_app b3 hp, rb_app b4 hp, rb_app b5 hp, rb_app b6 hp⟩
theorem RV_app {ra rb : Int32} {h' : Nat → Nat → Int32} {n' : Nat → Nat} (r : RV n h) (e1 : n' 1 = n 1) (e9 : n' 9 = n 9 + 1) (e12 : h' 12 = upd (h 12) (n 9) ra) (e13 : h' 13 = upd (h 13) (n 9) rb) (ha : okT (n 1) ra) (hb : okT (n 1) rb) : RV n' h' := by
  intro i hi
  rw [e1, e12, e13]
  by_cases ci : i = n 9
  · subst ci; rw [upd_s, upd_s]; exact ⟨ha, hb⟩
  · rw [upd_n ci, upd_n ci]; exact r i (by omega)
theorem RM_e {d e e' k B : Nat} {be tu mkd bh ah : Nat → Int32} (r : RM d e k B be tu mkd bh ah) (he : e ≤ e') : RM d e' k B be tu mkd bh ah := by
  obtain ⟨mk, bf, ag, h1, h2, h3⟩ := r
  refine ⟨mk, bf, ag, fun t ht => ?_, h2, h3⟩
  obtain ⟨a1, a2, a3, a4, a5, a6, a7, a8, a9⟩ := h1 t ht
  exact ⟨a1, a2, a3, a4, a5, a6, a7, by omega, a9⟩
theorem Rel_no {ra rb : Int32} (r : Rel c n f g h) (h9 : n 9 < n 2) (ha : okT (n 1) ra) (hb : okT (n 1) rb) (hc : c + 1 < 100000) : Rel (c + 1) (un n 9 (n 9 + 1)) (x_apF n f ra rb (-1) (-1) (nI 0)) (un (un g 0 0) 10 (g 10 + 1)) (m_aF (un g 0 0) h ra rb (-1) (-1) (-1) (nI 0)) := by
  obtain ⟨⟨rA, rB, rC, rD, rV, rN⟩, rM⟩ := r
  have hA := rA
  unfold RA at hA
  have e10 : (un g 0 0) 10 = n 9 := by show g 10 = n 9; omega
  rw [x_apF_0]
  refine ⟨⟨by unfold RA at rA ⊢; simp only [un]; simp; omega, RB_app rB (by omega) h9 e10 rfl rfl rfl, rC, rD, RV_app (ra := ra) (rb := rb) rV rfl rfl (by rw [← e10]; rfl) (by rw [← e10]; rfl) ha hb, ?_, ?_⟩, ?_⟩
  · refine iR_app0 rN.1 (show n 0 ≤ 32 by omega) (fun j hj => ?_) ?_ ?_
    · refine ⟨?_, ?_, ?_⟩ <;> exact upd_n (by rw [e10]; omega)
    · show upd (h 16) ((un g 0 0) 10) (-1) (n 9) = -1
      rw [e10, upd_s]
    · show upd (h 14) ((un g 0 0) 10) (-1) (n 9) = -1
      rw [e10, upd_s]
  · refine iS_ext rN.2 (fun q hq => ?_)
    show sc (h 5) (upd (h 16) ((un g 0 0) 10) (-1)) (upd (h 14) ((un g 0 0) 10) (-1)) (n 0) (n 9 + 1) q = _
    rw [e10, sc_app (rg := h 16) (gv := h 14) (fun j hj => ⟨upd_n (by omega), upd_n (by omega)⟩), upd_s]
    simp
  · exact RM_e rM (show n 10 + n 9 ≤ n 10 + (n 9 + 1) by omega)
/-- where a name is taken -/
theorem Rel_give {ra rb : Int32} {r0 q : Nat} (r : Rel c n f g h) (h9 : n 9 < n 2) (h7 : 0 < n 7) (hr0 : r0 < n 0) (hq0 : h 8 0 = nI q) (hq : q < n 1) (ha : okT (n 1) ra) (hb : okT (n 1) rb) (hc : c + 1 < 100000) :
    Rel (c + 1) (un (un (un n 6 (x_slot n 1)) 7 (n 7 - 1)) 9 (n 9 + 1)) (x_apF (un (un n 6 (x_slot n 1)) 7 (n 7 - 1)) (uf (uf f 7 (upd (f 7) q (nI 1))) 8 (upd (f 8) q (nI 0))) ra rb (nI q) (nI r0) (nI 0)) (un (un (un g 0 0) 9 (g 9 - 1)) 10 (g 10 + 1)) (uf (m_aF (un (un g 0 0) 9 (g 9 - 1)) (uf (uf (uf h 8 (x_sl (h 8) 0 (g 9 - 1))) 6 (upd (h 6) q (nI 1))) 7 (upd (h 7) q (nI 0))) ra rb (nI q) (h 4 r0) (nI r0) (nI 0)) 4 (upd (h 4) r0 (nI q))) := by
  obtain ⟨⟨rA, rB, rC, ⟨d0, d1, d2, d3, d4⟩, rV, rN⟩, rM⟩ := r
  have hA := rA
  unfold RA at hA
  have e10 : (un (un g 0 0) 9 (g 9 - 1)) 10 = n 9 := by show g 10 = n 9; omega
  have e9 : g 9 = n 7 := by omega
  have e4 : f 4 r0 = h 4 r0 := d0 r0 hr0
  have hsl : x_slot n 1 < n 1 := x_slot_lt (by omega) (by omega)
  rw [x_apF_r (show r0 < (un (un n 6 (x_slot n 1)) 7 (n 7 - 1)) 0 from hr0) (show (un (un n 6 (x_slot n 1)) 7 (n 7 - 1)) 0 ≤ 32 from by show n 0 ≤ 32; omega)]
  have e4' : (uf (uf f 7 (upd (f 7) q (nI 1))) 8 (upd (f 8) q (nI 0))) 4 r0 = h 4 r0 := e4
  rw [e4']
  have hsc : ∀ q1, q1 < n 1 → sc (h 5) (upd (h 16) (n 9) (nI r0)) (upd (h 14) (n 9) (nI q)) (n 0) (n 9 + 1) q1 = sc (h 5) (h 16) (h 14) (n 0) (n 9) q1 + (if q1 = q then 1 else 0) := fun q1 hq1 => by
    rw [sc_app (rg := h 16) (gv := h 14) (fun j hj => ⟨upd_n (by omega), upd_n (by omega)⟩), upd_s, upd_s]
    have n1 : ¬ nI r0 = -1 := nI_m1 (by omega)
    have n2 : (nI q = nI q1) ↔ q1 = q := by
      rw [nI_eq (by omega) (by omega)]
      exact ⟨fun x => x.symm, fun x => x.symm⟩
    simp only [n1, n2, decide_false, Bool.not_false, Bool.true_and, decide_eq_true_eq]
  refine ⟨⟨by unfold RA at rA ⊢; simp only [un]; simp; omega, RB_app (n := un (un n 6 (x_slot n 1)) 7 (n 7 - 1)) (h := (uf (uf (uf h 8 (x_sl (h 8) 0 (g 9 - 1))) 6 (upd (h 6) q (nI 1))) 7 (upd (h 7) q (nI 0)))) rB (show n 8 < n 2 by omega) h9 e10 rfl rfl rfl, ?_, ⟨ev_upd d0, d1, d2, ev_upd d3, ev_upd d4⟩, RV_app (ra := ra) (rb := rb) rV rfl rfl (by rw [← e10]; rfl) (by rw [← e10]; rfl) ha hb, ?_, ?_⟩, ?_⟩
  · intro k hk
    have hk' : k < n 7 - 1 := hk
    show f 9 (x_slot (un (un (un n 6 (x_slot n 1)) 7 (n 7 - 1)) 9 (n 9 + 1)) k) = x_sl (h 8) 0 (g 9 - 1) k
    have e1 : x_slot (un (un (un n 6 (x_slot n 1)) 7 (n 7 - 1)) 9 (n 9 + 1)) k = x_slot n (k + 1) := by
      show (if x_slot n 1 + k < n 1 then x_slot n 1 + k else x_slot n 1 + k - n 1) = x_slot n (k + 1)
      unfold x_slot
      split <;> split <;> split <;> omega
    rw [e1, rC (k + 1) (by omega)]
    unfold x_sl
    rw [if_pos ⟨by omega, by omega⟩]
  · refine iR_app (r0 := r0) (q0 := q) rN.1 (show n 0 ≤ 32 by omega) (fun j hj => ?_) hr0 hq ?_ ?_ ?_
    · refine ⟨?_, ?_, ?_⟩ <;> exact upd_n (by rw [e10]; omega)
    · show upd (h 16) ((un (un g 0 0) 9 (g 9 - 1)) 10) (nI r0) (n 9) = nI r0
      rw [e10, upd_s]
    · show upd (h 14) ((un (un g 0 0) 9 (g 9 - 1)) 10) (nI q) (n 9) = nI q
      rw [e10, upd_s]
    · show upd (h 15) ((un (un g 0 0) 9 (g 9 - 1)) 10) (h 4 r0) (n 9) = h 4 r0
      rw [e10, upd_s]
  · show iS (n 1) (n 7 - 1) (upd (h 6) q (nI 1)) (x_sl (h 8) 0 (g 9 - 1)) (sc (h 5) (upd (h 16) ((un (un g 0 0) 9 (g 9 - 1)) 10) (nI r0)) (upd (h 14) ((un (un g 0 0) 9 (g 9 - 1)) 10) (nI q)) (n 0) (n 9 + 1))
    rw [e10]
    refine (iS_take rN.2 h7 hq (by omega) hq0 (fun j hj => ?_) hsc).2
    unfold x_sl
    rw [if_pos ⟨by omega, by omega⟩]
  · exact RM_e rM (show n 10 + n 9 ≤ n 10 + (n 9 + 1) by omega)
/-- where a name is shared -/
theorem Rel_move {r0 q ja : Nat} (r : Rel c n f g h) (h9 : n 9 < n 2) (hr0 : r0 < n 0) (hja : ja < n 0) (hq0 : h 4 ja = nI q) (hq : q < n 1) (hc : c + 1 < 100000) :
    Rel (c + 1) (un n 9 (n 9 + 1)) (x_apF n (uf f 7 (upd (f 7) q (f 7 q + nI 1))) (nI q) (-1) (nI q) (nI r0) (nI 2)) (un (un g 0 0) 10 (g 10 + 1)) (uf (m_aF (un g 0 0) (uf h 6 (upd (h 6) q (h 6 q + nI 1))) (nI q) (-1) (nI q) (h 4 r0) (nI r0) (nI 2)) 4 (upd (h 4) r0 (nI q))) := by
  obtain ⟨⟨rA, rB, rC, ⟨d0, d1, d2, d3, d4⟩, rV, rN⟩, rM⟩ := r
  have hA := rA
  unfold RA at hA
  have e10 : (un g 0 0) 10 = n 9 := by show g 10 = n 9; omega
  have e4 : f 4 r0 = h 4 r0 := d0 r0 hr0
  rw [x_apF_r hr0 (by omega)]
  have e4' : (uf f 7 (upd (f 7) q (f 7 q + nI 1))) 4 r0 = h 4 r0 := e4
  rw [e4', d3 q hq]
  have hsc : ∀ q1, q1 < n 1 → sc (h 5) (upd (h 16) (n 9) (nI r0)) (upd (h 14) (n 9) (nI q)) (n 0) (n 9 + 1) q1 = sc (h 5) (h 16) (h 14) (n 0) (n 9) q1 + (if q1 = q then 1 else 0) := fun q1 hq1 => by
    rw [sc_app (rg := h 16) (gv := h 14) (fun j hj => ⟨upd_n (by omega), upd_n (by omega)⟩), upd_s, upd_s]
    have n1 : ¬ nI r0 = -1 := nI_m1 (by omega)
    have n2 : (nI q = nI q1) ↔ q1 = q := by
      rw [nI_eq (by omega) (by omega)]
      exact ⟨fun x => x.symm, fun x => x.symm⟩
    simp only [n1, n2, decide_false, Bool.not_false, Bool.true_and, decide_eq_true_eq]
  refine ⟨⟨by unfold RA at rA ⊢; simp only [un]; simp; omega, RB_app (h := (uf h 6 (upd (h 6) q (h 6 q + nI 1)))) rB (by omega) h9 e10 rfl rfl rfl, rC, ⟨ev_upd d0, d1, d2, ev_upd d3, d4⟩, RV_app (ra := nI q) (rb := -1) rV rfl rfl (by rw [← e10]; rfl) (by rw [← e10]; rfl) (Or.inr ⟨q, hq, rfl⟩) (Or.inl rfl), ?_, ?_⟩, ?_⟩
  · refine iR_app (r0 := r0) (q0 := q) rN.1 (show n 0 ≤ 32 by omega) (fun j hj => ?_) hr0 hq ?_ ?_ ?_
    · refine ⟨?_, ?_, ?_⟩ <;> exact upd_n (by rw [e10]; omega)
    · show upd (h 16) ((un g 0 0) 10) (nI r0) (n 9) = nI r0
      rw [e10, upd_s]
    · show upd (h 14) ((un g 0 0) 10) (nI q) (n 9) = nI q
      rw [e10, upd_s]
    · show upd (h 15) ((un g 0 0) 10) (h 4 r0) (n 9) = h 4 r0
      rw [e10, upd_s]
  · show iS (n 1) (n 7) (upd (h 6) q (h 6 q + nI 1)) (h 8) (sc (h 5) (upd (h 16) ((un g 0 0) 10) (nI r0)) (upd (h 14) ((un g 0 0) 10) (nI q)) (n 0) (n 9 + 1))
    rw [e10]
    refine iS_more rN.2 hq hsc ?_ ?_
    · have := sc_le (h 5) (upd (h 16) (n 9) (nI r0)) (upd (h 14) (n 9) (nI q)) (n 0) (n 9 + 1) q
      omega
    · obtain ⟨q2, hq2, e6, e7⟩ := cur_name rN.1 hja (by omega) (n 9) (Nat.le_refl _)
      have e8 := rN.1.2.2.2 ja hja
      rw [hq0, e6] at e8
      have := (nI_eq (by omega) (by omega)).mp e8
      subst this; exact e7
  · exact RM_e rM (show n 10 + n 9 ≤ n 10 + (n 9 + 1) by omega)
end
