/-! my own: end, select, rows that come -/
section
variable {c : Nat} {n g : Nat → Nat} {f h : Nat → Nat → Int32}
theorem Rel0_st {i : Nat} {x : Int32} (r : Rel0 c n f g h) (hi : i < n 9) : Rel0 c n (uf f 16 (upd (f 16) (x_pos n i) x)) g (uf h 18 (upd (h 18) i x)) := by
  obtain ⟨rA, ⟨b0, b1, b2, b3, b4, b5, b6⟩, rest⟩ := r
  have hA := rA
  unfold RA at hA
  exact ⟨rA, ⟨b0, b1, b2, b3, b4, b5, rb_upd b6 (fun j hj ne => pos_inj (by omega) (by omega) (by omega) ne)⟩, rest⟩
theorem Rel0_rd {q : Nat} {x : Int32} (r : Rel0 c n f g h) : Rel0 c n (uf f 8 (upd (f 8) q x)) g (uf h 7 (upd (h 7) q x)) := by
  obtain ⟨rA, rB, rC, ⟨d0, d1, d2, d3, d4⟩, rest⟩ := r
  exact ⟨rA, rB, rC, ⟨d0, d1, d2, d3, ev_upd d4⟩, rest⟩
theorem Rel0_g {k : Nat} (r : Rel0 c n f g h) (hk : k < 4) : Rel0 c n f (un g 0 k) h := by
  obtain ⟨rA, rest⟩ := r
  exact ⟨by unfold RA at rA ⊢; simp only [un]; simp; omega, rest⟩
theorem Rel0_gv (r : Rel0 c n f g h) {i : Nat} (hi : i < n 9) : okT (n 1) (h 14 i) := by
  obtain ⟨_, _, _, _, _, rN, _⟩ := r
  rcases rN.1 i hi with ⟨_, e⟩ | ⟨r, q, _, hq, _, e⟩
  · exact Or.inl e
  · exact Or.inr ⟨q, hq, e⟩
theorem m_may_o {h h' : Nat → Nat → Int32} {i : Nat} (e18 : h' 18 i = h 18 i) (e7 : h' 7 = h 7) (e12 : h' 12 = h 12) (e13 : h' 13 = h 13) : m_may h' i = m_may h i := by
  unfold m_may m_rdy; rw [e18, e7, e12, e13]
theorem m_cnt_st {i : Nat} (e : h 18 i = nI 1) : ∀ k, m_cnt (uf h 18 (upd (h 18) i (nI 2))) k = m_cnt h k
  | 0 => rfl
  | k + 1 => by
    rw [m_cnt, m_cnt, m_cnt_st e k]
    congr 1
    by_cases c : k = i
    · subst c
      have h1 : m_may (uf h 18 (upd (h 18) k (nI 2))) k = false := by
        unfold m_may
        have : ¬ (uf h 18 (upd (h 18) k (nI 2)) 18 k) = 0 := by rw [uf_s, upd_s]; decide
        simp [this]
      have h2 : m_may h k = false := by
        unfold m_may
        have : ¬ h 18 k = 0 := by rw [e]; decide
        simp [this]
      rw [h1, h2]
    · rw [m_may_o (h := h) (h' := uf h 18 (upd (h 18) i (nI 2))) (by rw [uf_s, upd_n c]) rfl rfl rfl]
theorem mr_rel (r : Rel0 c n f g h) {x : Int32} (hx : okT (n 1) x) : Rel0 c n (x_mrF n f x) g (m_mr h x) := by
  have hA := r.1
  unfold RA at hA
  rcases hx with rfl | ⟨q, hq, rfl⟩
  · have e1 : x_mrF n f (-1) = f := by unfold x_mrF; rw [inB_m1]; simp
    have e2 : m_mr h (-1) = h := by unfold m_mr; rw [if_pos (by decide)]
    rw [e1, e2]; exact r
  · have e1 : x_mrF n f (nI q) = uf f 8 (upd (f 8) q (nI 1)) := by
      unfold x_mrF; rw [inB_nI (by omega) (by omega), cl32_nI (by omega)]; simp [hq]
    have e2 : m_mr h (nI q) = uf h 7 (upd (h 7) q (nI 1)) := by
      unfold m_mr; rw [if_neg (nI_pos (by omega)), cl32_nI (by omega)]
    rw [e1, e2]; exact Rel0_rd r
theorem x_mrF_o {x : Int32} {k : Nat} (hk : k ≠ 8) : x_mrF n f x k = f k := by
  unfold x_mrF; split
  · exact uf_n hk
  · rfl
theorem m_mr_o {x : Int32} {k : Nat} (hk : k ≠ 7) : m_mr h x k = h k := by
  unfold m_mr; split
  · rfl
  · exact uf_n hk
theorem Rel_end {i : Nat} (r : Rel c n f g h) (hi : i < n 9) (hst : h 18 i = nI 1) (hc : c + 1 < 100000) :
    Rel (c + 1) n (x_mrF n (uf f 16 (upd (f 16) (x_pos n i) (nI 2))) (f 12 (x_pos n i))) (un g 0 0) (m_mr (uf h 18 (upd (h 18) i (nI 2))) (h 14 i)) ∧
    nI (x_cnt n (x_mrF n (uf f 16 (upd (f 16) (x_pos n i) (nI 2))) (f 12 (x_pos n i))) (n 9)) - nI (x_cnt n (uf f 16 (upd (f 16) (x_pos n i) (nI 2))) (n 9)) = nI (m_cnt (m_mr (uf h 18 (upd (h 18) i (nI 2))) (h 14 i)) (g 10)) - nI (m_cnt h (g 10)) := by
  obtain ⟨r0, rM⟩ := r
  have hA := r0.1
  unfold RA at hA
  have e12 : f 12 (x_pos n i) = h 14 i := r0.2.1.2.2.1 i hi
  have gv := Rel0_gv r0 hi
  have r1 := Rel0_st (i := i) (x := nI 2) r0 hi
  have r2 := mr_rel r1 gv
  have e10 : g 10 = n 9 := by omega
  rw [e12, e10]
  refine ⟨⟨Rel0_up (Rel0_g r2 (by omega)) (by omega) hc, ?_⟩, ?_⟩
  · rw [x_mrF_o (k := 17) (by decide), x_mrF_o (k := 18) (by decide), m_mr_o (k := 19) (by decide), m_mr_o (k := 20) (by decide), m_mr_o (k := 21) (by decide)]
    exact rM
  · rw [cnt_eq r1 _ (Nat.le_refl _), cnt_eq r2 _ (Nat.le_refl _), m_cnt_st hst]
/-! select -/
theorem find_6 {u : Nat → Int32} {p : Int32} : ∀ k i, x_find n (uf f 6 u) p k i = x_find n f p k i
  | 0, _ => rfl
  | k + 1, i => by
    have e : x_able n (uf f 6 u) (x_pos n i) = x_able n f (x_pos n i) := rfl
    have e2 : uf f 6 u 15 = f 15 := rfl
    simp only [x_find]
    rw [find_6 k (i + 1), e, e2]
theorem m_in_stop {ka pn : Nat} {H : Nat → Nat → Int32} {v : Nat} (hs : ¬ (pn < ka ∧ ¬ 0 ≤ H 24 pn)) : ∀ k i, m_in g ka pn k i H v = (v, H)
  | 0, _ => rfl
  | k + 1, i => by rw [m_in, if_neg hs]
theorem m_in_find (r : Rel0 c n f g h) {ka pn v : Nat} (h24 : h 24 pn = -1) (hk : pn < ka) : ∀ k i, i + k = n 9 →
    (x_find n f (nI pn) k i = -1 ∧ m_in g ka pn k i h v = (v, h)) ∨ ∃ j, j < n 9 ∧ x_find n f (nI pn) k i = nI (x_pos n j) ∧ m_in g ka pn k i h v = (v + 1, uf (uf h 18 (upd (h 18) j (nI 1))) 24 (upd (h 24) pn (nI (x_pos n j))))
  | 0, i, _ => Or.inl ⟨rfl, rfl⟩
  | k + 1, i, hik => by
    have hA := r.1
    unfold RA at hA
    have e15 : f 15 (x_pos n i) = h 17 i := r.2.1.2.2.2.2.2.1 i (by omega)
    have ea := able_eq r (i := i) (by omega)
    have hn : ¬ (0 : Int32) ≤ h 24 pn := by rw [h24]; decide
    have hb : pn < ka ∧ ¬ 0 ≤ h 24 pn := ⟨hk, hn⟩
    rw [x_find, m_in, if_pos hb, e15, ea]
    by_cases c1 : (decide (h 17 i = nI pn) && m_may h i) = true
    · rw [if_pos c1, if_pos c1]
      refine Or.inr ⟨i, by omega, rfl, ?_⟩
      rw [RA_pos r.1 (by omega)]
      refine m_in_stop (fun q => q.2 ?_) _ _
      rw [uf_s, upd_s]
      exact nI_pos' (by have := x_pos_lt (n := n) (i := i) (by omega) (by omega); omega)
    · rw [if_neg c1, if_neg c1]
      exact m_in_find r h24 hk k (i + 1) (by omega)
theorem sel_step (r : Rel0 c n f g h) (ka : Nat) {p : Nat} (v : Nat) (hp : p < 8) : Rel0 c n (x_sF n f ka p) g (m_in g ka p (g 10) 0 (uf h 24 (upd (h 24) p (-1))) v).2 ∧ (m_in g ka p (g 10) 0 (uf h 24 (upd (h 24) p (-1))) v).1 = (if x_sp n f ka p = -1 then v else v + 1) ∧ x_sF n f ka p 17 = f 17 ∧ x_sF n f ka p 18 = f 18 ∧ (m_in g ka p (g 10) 0 (uf h 24 (upd (h 24) p (-1))) v).2 19 = h 19 ∧ (m_in g ka p (g 10) 0 (uf h 24 (upd (h 24) p (-1))) v).2 20 = h 20 ∧ (m_in g ka p (g 10) 0 (uf h 24 (upd (h 24) p (-1))) v).2 21 = h 21 := by
  have hA := r.1
  unfold RA at hA
  have e10 : g 10 = n 9 := by omega
  have r1 : Rel0 c n (uf f 6 (upd (f 6) p (-1))) g (uf h 24 (upd (h 24) p (-1))) := by
    obtain ⟨rA, rB, rC, ⟨d0, d1, d2, d3, d4⟩, rest⟩ := r
    exact ⟨rA, rB, rC, ⟨d0, d1, ev_upd d2, d3, d4⟩, rest⟩
  by_cases hk : p < ka
  · have esp : x_sp n f ka p = x_find n f (nI p) (n 9) 0 := by rw [x_sp, if_pos hk]
    rw [e10]
    rcases m_in_find r1 (ka := ka) (pn := p) (v := v) (by rw [uf_s, upd_s]) hk (n 9) 0 (by omega) with ⟨h1, h2⟩ | ⟨j, hj, h1, h2⟩
    · rw [find_6] at h1
      have e1 : x_sF n f ka p = uf f 6 (upd (f 6) p (-1)) := by rw [x_sF, esp, h1, if_pos rfl]
      rw [h2, e1, esp, h1]
      exact ⟨r1, rfl, rfl, rfl, rfl, rfl, rfl⟩
    · rw [find_6] at h1
      have hpl := x_pos_lt (n := n) (i := j) (by omega) (by omega)
      have ne : ¬ nI (x_pos n j) = -1 := nI_m1 (by omega)
      have e1 : x_sF n f ka p = uf (uf f 6 (upd (f 6) p (nI (x_pos n j)))) 16 (upd (f 16) (x_pos n j) (nI 1)) := by rw [x_sF, esp, h1, if_neg ne, cl32_nI (by omega)]
      rw [h2, e1, esp, h1, if_neg ne]
      refine ⟨?_, rfl, rfl, rfl, rfl, rfl, rfl⟩
      obtain ⟨rA, rB, rC, ⟨d0, d1, d2, d3, d4⟩, rest⟩ := Rel0_st (i := j) (x := nI 1) r hj
      refine ⟨rA, rB, rC, ⟨d0, d1, ?_, d3, d4⟩, rest⟩
      intro i hi
      show upd (f 6) p (nI (x_pos n j)) i = upd (upd (h 24) p (-1)) p (nI (x_pos n j)) i
      by_cases ci : i = p
      · subst ci; rw [upd_s, upd_s]
      · rw [upd_n ci, upd_n ci, upd_n ci]; exact d2 i hi
  · have esp : x_sp n f ka p = -1 := by rw [x_sp, if_neg hk]
    have e1 : x_sF n f ka p = uf f 6 (upd (f 6) p (-1)) := by rw [x_sF, esp, if_pos rfl]
    rw [m_in_stop (fun q => hk q.1), e1, esp]
    exact ⟨r1, rfl, rfl, rfl, rfl, rfl, rfl⟩
theorem sel_all (ka : Nat) : ∀ (k p : Nat) (f h : Nat → Nat → Int32) (v : Nat), Rel0 c n f g h → p + k ≤ 8 → (x_se n ka k p f v).1 = (m_se g ka k p h v).1 ∧ Rel0 c n (x_se n ka k p f v).2 g (m_se g ka k p h v).2 ∧ (x_se n ka k p f v).2 17 = f 17 ∧ (x_se n ka k p f v).2 18 = f 18 ∧ (m_se g ka k p h v).2 19 = h 19 ∧ (m_se g ka k p h v).2 20 = h 20 ∧ (m_se g ka k p h v).2 21 = h 21
  | 0, _, f, h, v, r, _ => ⟨rfl, r, rfl, rfl, rfl, rfl, rfl⟩
  | k + 1, p, f, h, v, r, hp => by
    obtain ⟨s1, s2, s3, s4, s5, s6, s7⟩ := sel_step r ka (p := p) v (by omega)
    rw [x_se, m_se, s2]
    obtain ⟨t1, t2, t3, t4, t5, t6, t7⟩ := sel_all ka k (p + 1) _ _ (if x_sp n f ka p = -1 then v else v + 1) s1 (by omega)
    exact ⟨t1, t2, t3.trans s3, t4.trans s4, t5.trans s5, t6.trans s6, t7.trans s7⟩
theorem Rel_select (r : Rel c n f g h) (ka : Nat) (hc : c + 1 < 100000) : (x_se n ka 8 0 f 0).1 = (m_se g ka 8 0 h 0).1 ∧ Rel (c + 1) n (x_se n ka 8 0 f 0).2 (un g 0 0) (m_se g ka 8 0 h 0).2 := by
  obtain ⟨r0, rM⟩ := r
  obtain ⟨t1, t2, t3, t4, t5, t6, t7⟩ := sel_all ka 8 0 f h 0 r0 (by omega)
  refine ⟨t1, Rel0_up (Rel0_g t2 (by omega)) (by omega) hc, ?_⟩
  rw [t3, t4, t5, t6, t7]; exact rM
end
