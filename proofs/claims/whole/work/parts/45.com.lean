/-! my own: commit, branch, right, wrong, the beginning -/
section
variable {c : Nat} {n g : Nat → Nat} {f h : Nat → Nat → Int32}
def MB (n : Nat → Nat) (f : Nat → Nat → Int32) (M : Nat) : Prop := (n 11 = 0 ∧ M = n 9) ∨ (0 < n 11 ∧ ∃ mk0 b0, f 18 0 = nI mk0 ∧ mk0 < 8 ∧ f 17 mk0 = nI b0 ∧ b0 = n 10 + M ∧ M ≤ n 9)
theorem nI_sub {a b : Nat} (h : b ≤ a) : nI a - nI b = nI (a - b) := by
  have h1 := nI_sa (a := a) (b := b) (c := 0) (by omega)
  rw [nI_0] at h1
  have h2 : nI a - nI b + 0 = nI a - nI b := Int32.add_zero _
  rw [← h2, h1]; rfl
theorem MB_ex (r : Rel c n f g h) : ∃ M, MB n f M ∧ x_rb n f = nI M ∧ M ≤ n 9 := by
  obtain ⟨r0, mk, bf, ag, h1, h2, h3⟩ := r
  have hA := r0.1
  unfold RA at hA
  by_cases ck : n 11 = 0
  · refine ⟨n 9, Or.inl ⟨ck, rfl⟩, ?_, Nat.le_refl _⟩
    have : x_om n f = -1 := by rw [x_om, if_pos ck]
    rw [x_rb, if_pos this]
  · obtain ⟨a1, a2, a3, a4, a5, a6, a7, a8, a9⟩ := h1 0 (by omega)
    have e : x_om n f = nI (mk 0) := by rw [x_om, if_neg ck, a2]
    have ne : ¬ nI (mk 0) = -1 := nI_m1 (by omega)
    refine ⟨bf 0 - n 10, Or.inr ⟨by omega, mk 0, bf 0, a2, a1, a4, by omega, by omega⟩, ?_, by omega⟩
    rw [x_rb, e, if_neg ne, x_bef, inB_nI (by omega) (by omega), cl32_nI (by omega), a4, if_pos (by simp [a1]), nI_sub a7]
theorem RM_d {d e k B : Nat} {be tu mkd bh ah : Nat → Int32} (r : RM d e k B be tu mkd bh ah) (he : e < 1000000) (q : k = 0 ∨ ∃ mk0 b0, tu 0 = nI mk0 ∧ mk0 < 8 ∧ be mk0 = nI b0 ∧ d < b0 ∧ b0 ≤ e) : RM (d + 1) e k B be tu mkd bh ah := by
  obtain ⟨mk, bf, ag, h1, h2, h3⟩ := r
  refine ⟨mk, bf, ag, fun t ht => ?_, h2, h3⟩
  obtain ⟨a1, a2, a3, a4, a5, a6, a7, a8, a9⟩ := h1 t ht
  refine ⟨a1, a2, a3, a4, a5, a6, ?_, a8, a9⟩
  rcases q with q | ⟨mk0, b0, q1, q2, q3, q4, q5⟩
  · omega
  · obtain ⟨z1, z2, z3, z4, z5, z6, z7, z8, z9⟩ := h1 0 (by omega)
    have e1 : mk0 = mk 0 := (nI_eq (by omega) (by omega)).mp (by rw [← q1, z2])
    subst e1
    have e2 : b0 = bf 0 := (nI_eq (by omega) (by omega)).mp (by rw [← q3, z4])
    subst e2
    by_cases ct : t = 0
    · subst ct; omega
    · have := h2 0 t (by omega) ht
      omega
theorem commit_all (ka : Nat) : ∀ (m v K M : Nat) (n g : Nat → Nat) (f h : Nat → Nat → Int32), Rel c n f g h → MB n f M → m = min (ka - v) M → g 10 = K → x_cs m n f ∧ m_cs ka K v g h ∧ (m_cm ka K v g h).1 = v + (x_cm m n f).1 ∧ Rel c (x_cm m n f).2.1 (x_cm m n f).2.2 (m_cm ka K v g h).2.1 (m_cm ka K v g h).2.2 := by
  intro m
  induction m with
  | zero =>
    intro v K M n g f h r hM hm hK
    have hA := r.1.1
    unfold RA at hA
    have hb := bnd_eq r.2 (by omega) (by omega)
    have hcc : 0 < K → m_cc ka v g h = false := fun hk => by
      unfold m_cc
      rcases hM with ⟨m1, m2⟩ | ⟨m1, mk0, b0, m2, m3, m4, m5, m6⟩
      · have : ¬ v < ka := by omega
        simp [this]
      · by_cases c1 : v < ka
        · have : ¬ nI (g 25) < m_bnd h := by
            rw [show g 25 = n 10 by omega, hb]
            rintro (q | ⟨mk1, b1, q1, q2, q3, q4, q5⟩)
            · omega
            · have e1 : mk1 = mk0 := (nI_eq (by omega) (by omega)).mp (by rw [← q1, m2])
              subst e1
              have e2 : b1 = b0 := (nI_eq (by omega) (by omega)).mp (by rw [← q3, m4])
              omega
          simp [this]
        · simp [c1]
    cases K with
    | zero => exact ⟨trivial, trivial, rfl, r⟩
    | succ K =>
      have e := hcc (by omega)
      have e2 : m_cm ka (K + 1) v g h = (v, g, h) := by rw [m_cm, if_neg (by rw [e]; decide)]
      rw [e2]
      exact ⟨trivial, fun q => absurd q (by rw [e]; decide), rfl, r⟩
  | succ m ih =>
    intro v K M n g f h r hM hm hK
    have hA := r.1.1
    unfold RA at hA
    have hb := bnd_eq r.2 (by omega) (by omega)
    have h9 : 0 < n 9 := by
      rcases hM with ⟨m1, m2⟩ | ⟨m1, mk0, b0, m2, m3, m4, m5, m6⟩ <;> omega
    have hcond : n 11 = 0 ∨ ∃ mk0 b0, f 18 0 = nI mk0 ∧ mk0 < 8 ∧ f 17 mk0 = nI b0 ∧ n 10 < b0 ∧ b0 ≤ n 10 + n 9 := by
      rcases hM with ⟨m1, m2⟩ | ⟨m1, mk0, b0, m2, m3, m4, m5, m6⟩
      · exact Or.inl m1
      · exact Or.inr ⟨mk0, b0, m2, m3, m4, by omega, by omega⟩
    have hlt : nI (g 25) < m_bnd h := by rw [show g 25 = n 10 by omega]; exact hb.mpr hcond
    have hv : v < ka := by clear hcond hlt hb hM; omega
    obtain ⟨K', rfl⟩ : ∃ K', K = K' + 1 := ⟨K - 1, by omega⟩
    have ep : x_pos n 0 = n 8 := by unfold x_pos; rw [if_pos (by omega)]; rfl
    have f16 : f 16 (n 8) = h 18 0 := by rw [← ep]; exact r.1.2.1.2.2.2.2.2.2 0 h9
    have ei : x_isIn n f (x_old n) (nI 2) = decide (h 18 0 = nI 2) := by
      have eo : x_old n = nI (n 8) := by rw [x_old, if_neg (by omega)]
      have ea : x_age n (n 8) = 0 := by unfold x_age; rw [if_pos (Nat.le_refl _)]; omega
      rw [x_isIn, eo, x_holds_nI (by omega) (by omega), ea, cl32_nI (by omega), f16]
      simp [h9]
    have ec : m_cc ka v g h = decide (h 18 0 = nI 2) := by
      unfold m_cc; simp [hv, hlt]
    by_cases c1 : h 18 0 = nI 2
    · have ei' : x_isIn n f (x_old n) (nI 2) = true := by rw [ei]; simp [c1]
      have ec' : m_cc ka v g h = true := by rw [ec]; simp [c1]
      obtain ⟨t1, t2, t3⟩ := Rel0_fin r.1 h9
      have r' : Rel c (x_fiN n f) (x_fiF n f) (m_stN g h) (m_stF g h) := by
        refine ⟨t3, ?_⟩
        rw [fin_n.1, fin_n.2.1, fin_n.2.2, fin_f.1, fin_f.2, fin_g, fin_h (Or.inl rfl), fin_h (Or.inr (Or.inl rfl)), fin_h (Or.inr (Or.inr rfl))]
        have := RM_d r.2 (by omega) hcond
        rw [show n 10 + 1 + (n 9 - 1) = n 10 + n 9 by omega]
        exact this
      have hM' : MB (x_fiN n f) (x_fiF n f) (M - 1) := by
        unfold MB
        rw [fin_n.1, fin_n.2.1, fin_n.2.2, fin_f.1, fin_f.2]
        rcases hM with ⟨m1, m2⟩ | ⟨m1, mk0, b0, m2, m3, m4, m5, m6⟩
        · exact Or.inl ⟨m1, by omega⟩
        · exact Or.inr ⟨m1, mk0, b0, m2, m3, m4, by omega, by omega⟩
      obtain ⟨s1, s2, s3, s4⟩ := ih (v + 1) K' (M - 1) _ _ _ _ r' hM' (by clear hcond hlt hb hM hM'; omega) (by rw [m_stN_10]; clear hcond hlt hb hM hM'; omega)
      have ex : x_cm (m + 1) n f = ((x_cm m (x_fiN n f) (x_fiF n f)).1 + 1, (x_cm m (x_fiN n f) (x_fiF n f)).2) := by rw [x_cm, if_pos ei']
      have em : m_cm ka (K' + 1) v g h = m_cm ka K' (v + 1) (m_stN g h) (m_stF g h) := by rw [m_cm, if_pos ec']
      rw [ex, em]
      exact ⟨fun _ => ⟨t1, RA_x t3.1, s1⟩, fun _ => ⟨t2, RA_m t3.1, s2⟩, by rw [s3]; show v + 1 + _ = v + (_ + 1); omega, s4⟩
    · have ei' : ¬ x_isIn n f (x_old n) (nI 2) = true := by rw [ei]; simp [c1]
      have ec' : ¬ m_cc ka v g h = true := by rw [ec]; simp [c1]
      have ex : x_cm (m + 1) n f = (0, n, f) := by rw [x_cm, if_neg ei']
      have em : m_cm ka (K' + 1) v g h = (v, g, h) := by rw [m_cm, if_neg ec']
      rw [ex, em]
      exact ⟨fun q => absurd q ei', fun q => absurd q ec', rfl, r⟩
theorem Rel_up {c' : Nat} (r : Rel c n f g h) (hc : c ≤ c') (h2 : c' < 100000) : Rel c' n f g h := ⟨Rel0_up r.1 hc h2, r.2⟩
theorem Rel_g {k : Nat} (r : Rel c n f g h) (hk : k < 4) : Rel c n f (un g 0 k) h := ⟨Rel0_g r.1 hk, r.2⟩
theorem Rel_commit (r : Rel c n f g h) (ka : Nat) (hc : c + 1 < 100000) : ∃ M, x_rb n f = nI M ∧ M < 1000000 ∧ x_cs (min ka M) n f ∧ m_cs ka (g 10) 0 (un g 0 0) h ∧ (m_cm ka (g 10) 0 (un g 0 0) h).1 = (x_cm (min ka M) n f).1 ∧ Rel (c + 1) (x_cm (min ka M) n f).2.1 (x_cm (min ka M) n f).2.2 (m_cm ka (g 10) 0 (un g 0 0) h).2.1 (m_cm ka (g 10) 0 (un g 0 0) h).2.2 := by
  have hA := r.1.1
  unfold RA at hA
  obtain ⟨M, m1, m2, m3⟩ := MB_ex r
  obtain ⟨s1, s2, s3, s4⟩ := commit_all ka (min ka M) 0 (g 10) M n (un g 0 0) f h (Rel_g r (by omega)) m1 (by simp) rfl
  exact ⟨M, m2, by omega, s1, s2, by rw [s3]; omega, Rel_up s4 (by omega) hc⟩
/-! branch -/
theorem turn_m1 (r : Rel c n f g h) {j : Nat} (hj : j < 8) : x_turn n f (nI j) = -1 ↔ h 19 j = 0 := by
  have hA := r.1.1
  unfold RA at hA
  rcases turn_eq (n := n) (f := f) r.2 (by omega) rfl rfl hj with ⟨e1, e2⟩ | ⟨e1, t, ht, e2, _⟩
  · exact ⟨fun _ => e1, fun _ => e2⟩
  · exact ⟨fun q => absurd (e2.symm.trans q) (nI_m1 (by omega)), fun q => absurd q e1⟩
theorem lw_eq (r : Rel c n f g h) : ∀ k t, t + k ≤ 8 → x_lw n f k t = m_lw h k t
  | 0, _, _ => rfl
  | k + 1, t, ht => by
    have := turn_m1 r (j := t) (by omega)
    rw [x_lw, m_lw, lw_eq r k (t + 1) (by omega)]
    by_cases c1 : h 19 t = 0
    · rw [if_pos c1, if_pos (this.mpr c1)]
    · rw [if_neg c1, if_neg (fun q => c1 (this.mp q))]
theorem lw_spec : ∀ k t, m_lw h k t = -1 ∨ ∃ j, t ≤ j ∧ j < t + k ∧ m_lw h k t = nI j ∧ h 19 j = 0
  | 0, _ => Or.inl rfl
  | k + 1, t => by
    rw [m_lw]
    by_cases c1 : h 19 t = 0
    · rw [if_pos c1]; exact Or.inr ⟨t, by omega, by omega, rfl, c1⟩
    · rw [if_neg c1]
      rcases lw_spec k (t + 1) with e | ⟨j, a1, a2, a3, a4⟩
      · exact Or.inl e
      · exact Or.inr ⟨j, by omega, by omega, a3, a4⟩
theorem cn_mk {d e k B : Nat} {be tu mkd bh ah : Nat → Int32} (r : RM d e k B be tu mkd bh ah) : cn (fun j => !decide (mkd j = 0)) 8 = k := by
  obtain ⟨mk, bf, ag, h1, h2, h3⟩ := r
  refine cn_img (mk := mk) k _ (fun s t a b => (h2 s t a b).1) (fun t ht => (h1 t ht).1) (fun j hj => ?_)
  constructor
  · intro q
    simp only [Bool.not_eq_true', decide_eq_false_iff_not] at q
    exact h3 j hj q
  · rintro ⟨t, ht, rfl⟩
    have := (h1 t ht).2.2.1
    simp [this]
theorem lo_eq (r : Rel c n f g h) : x_lo n f = m_lo h := by
  have hA := r.1.1
  unfold RA at hA
  unfold x_lo m_lo
  by_cases c1 : n 11 < 8
  · rw [if_pos c1]; exact lw_eq r 8 0 (by omega)
  · rw [if_neg c1]
    rcases lw_spec (h := h) 8 0 with e | ⟨j, a1, a2, a3, a4⟩
    · exact e.symm
    · have h1 := cn_mk r.2
      have h2 := cn_lt (P := fun j => !decide (h 19 j = 0)) 8 j (by omega) (by simp [a4])
      omega
theorem Rel_branch (r : Rel c n f g h) (hc : c + 1 < 100000) : Rel (c + 1) (x_loN n f) (x_loF n f (n 10 + n 9)) (m_loN g h) (m_loF g h) := by
  have hA := r.1.1
  unfold RA at hA
  have el := lo_eq r
  unfold x_loN x_loF m_loN m_loF
  rw [el]
  rcases lw_spec (h := h) 8 0 with e | ⟨j, _, hj, e, ej⟩
  · have e' : m_lo h = -1 := e
    rw [if_pos e', if_pos e', if_pos e', if_pos e']
    exact Rel_up (Rel_g r (by omega)) (by omega) hc
  · have e' : m_lo h = nI j := e
    have ne : ¬ m_lo h = -1 := by rw [e']; exact nI_m1 (by omega)
    have h11 : n 11 < 8 := by
      by_cases c1 : n 11 < 8
      · exact c1
      · have h1 := cn_mk r.2
        have h2 := cn_lt (P := fun j => !decide (h 19 j = 0)) 8 j (by omega) (by simp [ej])
        omega
    rw [if_neg ne, if_neg ne, if_neg ne, if_neg ne, e', cl32_nI (by omega)]
    obtain ⟨⟨rA, rB, rC, rD, rV, rN⟩, mk, bf, ag, h1, h2, h3⟩ := r
    refine ⟨⟨by unfold RA at rA ⊢; simp only [un]; simp; omega, rB, rC, rD, rV, rN⟩, ?_⟩
    have hne : ∀ t, t < n 11 → mk t ≠ j := fun t ht q => (h1 t ht).2.2.1 (by rw [q]; exact ej)
    refine ⟨fun t => if t = n 11 then j else mk t, fun t => if t = n 11 then n 10 + n 9 else bf t, fun t => if t = n 11 then g 22 else ag t, fun t ht => ?_, fun s t hs ht => ?_, fun i hi hm => ?_⟩
    · have ht' : t < n 11 + 1 := ht
      show (if t = n 11 then j else mk t) < 8 ∧ upd (f 18) (n 11) (nI j) t = nI (if t = n 11 then j else mk t) ∧ ¬ upd (h 19) j (nI 1) (if t = n 11 then j else mk t) = 0 ∧ upd (f 17) j (nI (n 10 + n 9)) (if t = n 11 then j else mk t) = nI (if t = n 11 then n 10 + n 9 else bf t) ∧ upd (h 20) j (nI (g 25 + g 10)) (if t = n 11 then j else mk t) = nI (if t = n 11 then n 10 + n 9 else bf t) ∧ upd (h 21) j (nI (g 22)) (if t = n 11 then j else mk t) = nI (if t = n 11 then g 22 else ag t) ∧ n 10 ≤ (if t = n 11 then n 10 + n 9 else bf t) ∧ (if t = n 11 then n 10 + n 9 else bf t) ≤ n 10 + n 9 ∧ (if t = n 11 then g 22 else ag t) < g 22 + 1
      by_cases ct : t = n 11
      · rw [if_pos ct, if_pos ct, if_pos ct, ct, upd_s, upd_s, upd_s, upd_s, upd_s]
        exact ⟨by omega, rfl, by decide, rfl, by congr 1; omega, rfl, by omega, by omega, by omega⟩
      · obtain ⟨a1, a2, a3, a4, a5, a6, a7, a8, a9⟩ := h1 t (by omega)
        have := hne t (by omega)
        rw [if_neg ct, if_neg ct, if_neg ct, upd_n ct, upd_n this, upd_n this, upd_n this, upd_n this]
        exact ⟨a1, a2, a3, a4, a5, a6, a7, a8, by omega⟩
    · have ht' : t < n 11 + 1 := ht
      show (if s = n 11 then j else mk s) ≠ (if t = n 11 then j else mk t) ∧ (if s = n 11 then n 10 + n 9 else bf s) ≤ (if t = n 11 then n 10 + n 9 else bf t) ∧ (if s = n 11 then g 22 else ag s) < (if t = n 11 then g 22 else ag t)
      have cs : ¬ s = n 11 := by omega
      rw [if_neg cs, if_neg cs, if_neg cs]
      obtain ⟨a1, a2, a3, a4, a5, a6, a7, a8, a9⟩ := h1 s (by omega)
      by_cases ct : t = n 11
      · rw [if_pos ct, if_pos ct, if_pos ct]
        exact ⟨hne s (by omega), a8, a9⟩
      · rw [if_neg ct, if_neg ct, if_neg ct]
        exact h2 s t hs (by omega)
    · have hm' : ¬ upd (h 19) j (nI 1) i = 0 := hm
      show ∃ t, t < n 11 + 1 ∧ (if t = n 11 then j else mk t) = i
      by_cases ci : i = j
      · exact ⟨n 11, by omega, by rw [if_pos rfl, ci]⟩
      · rw [upd_n ci] at hm'
        obtain ⟨t, ht, et⟩ := h3 i hi hm'
        exact ⟨t, by omega, by rw [if_neg (by omega)]; exact et⟩
end
