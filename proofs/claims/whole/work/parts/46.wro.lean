/-! my own: right, wrong, the beginning, what count says -/
section
variable {c : Nat} {n g : Nat → Nat} {f h : Nat → Nat → Int32}
theorem Rel_right {j t : Nat} (r : Rel c n f g h) (hj : j < 8) (ht : t < n 11) (et : f 18 t = nI j) (hc : c + 1 < 100000) : Rel (c + 1) (un n 11 (n 11 - 1)) (uf f 18 (x_sl (f 18) t (n 11 - 1))) (un (un g 0 0) 23 (g 23 - 1)) (uf h 19 (upd (h 19) j (nI 0))) := by
  have hA := r.1.1
  unfold RA at hA
  obtain ⟨⟨rA, rB, rC, rD, rV, rN⟩, mk, bf, ag, h1, h2, h3⟩ := r
  have ej : mk t = j := (nI_eq (by have := (h1 t ht).1; omega) (by omega)).mp (by rw [← (h1 t ht).2.1, et])
  refine ⟨⟨by unfold RA at rA ⊢; simp only [un]; simp; omega, rB, rC, rD, rV, rN⟩, ?_⟩
  have inj : ∀ s, s < n 11 → s ≠ t → mk s ≠ j := fun s hs ne q => by
    rcases Nat.lt_or_ge s t with c1 | c1
    · exact (h2 s t c1 ht).1 (by rw [q, ej])
    · exact (h2 t s (by omega) hs).1 (by rw [q, ej])
  have nx : ∀ s, s < n 11 - 1 → (if s < t then s else s + 1) < n 11 ∧ (if s < t then s else s + 1) ≠ t := fun s hs => by split <;> omega
  refine ⟨fun s => mk (if s < t then s else s + 1), fun s => bf (if s < t then s else s + 1), fun s => ag (if s < t then s else s + 1), fun s hs => ?_, fun s u hs hu => ?_, fun i hi hm => ?_⟩
  · have hs' : s < n 11 - 1 := hs
    obtain ⟨a1, a2, a3, a4, a5, a6, a7, a8, a9⟩ := h1 _ (nx s hs').1
    have ne := inj _ (nx s hs').1 (nx s hs').2
    have e18 : x_sl (f 18) t (n 11 - 1) s = f 18 (if s < t then s else s + 1) := by
      unfold x_sl
      by_cases c1 : s < t
      · rw [if_neg (by omega), if_pos c1]
      · rw [if_pos ⟨by omega, hs'⟩, if_neg c1]
    refine ⟨a1, ?_, ?_, a4, a5, a6, a7, a8, a9⟩
    · show x_sl (f 18) t (n 11 - 1) s = _
      rw [e18]; exact a2
    · show ¬ upd (h 19) j (nI 0) (mk (if s < t then s else s + 1)) = 0
      rw [upd_n ne]; exact a3
  · have hu' : u < n 11 - 1 := hu
    exact h2 _ _ (by split <;> split <;> omega) (nx u hu').1
  · have hm' : ¬ upd (h 19) j (nI 0) i = 0 := hm
    have ne : i ≠ j := fun q => hm' (by rw [q, upd_s]; rfl)
    rw [upd_n ne] at hm'
    obtain ⟨s, hs, es⟩ := h3 i hi hm'
    have hst : s ≠ t := fun q => ne (by rw [← es, q, ej])
    show ∃ u, u < n 11 - 1 ∧ mk (if u < t then u else u + 1) = i
    by_cases c1 : s < t
    · exact ⟨s, by omega, by rw [if_pos c1]; exact es⟩
    · exact ⟨s - 1, by omega, by rw [if_neg (by omega), show s - 1 + 1 = s by omega]; exact es⟩
/-! wrong -/
theorem x_tf_ext {f' : Nat → Nat → Int32} {x : Int32} (e : f' 18 = f 18) : ∀ k t, x_tf f' x k t = x_tf f x k t
  | 0, _ => rfl
  | k + 1, t => by rw [x_tf, x_tf, e, x_tf_ext e k (t + 1)]
theorem dl_spec (j : Nat) : ∀ (k t : Nat) (G : Nat → Nat) (H : Nat → Nat → Int32), cn (fun i => m_dc j (t + i) H) k < G 23 → m_ds j k t G H ∧ m_dl j k t G H = (un G 23 (G 23 - cn (fun i => m_dc j (t + i) H) k), uf H 19 (fun i => if t ≤ i ∧ i < t + k ∧ m_dc j i H = true then nI 0 else H 19 i))
  | 0, t, G, H, hD => by
    refine ⟨hD, ?_⟩
    show (G, H) = _
    have e1 : un G 23 (G 23 - 0) = G := by
      funext i
      show (if i = 23 then G 23 - 0 else G i) = G i
      split
      · subst_vars; rfl
      · rfl
    have e2 : uf H 19 (fun i => if t ≤ i ∧ i < t + 0 ∧ m_dc j i H = true then nI 0 else H 19 i) = H := by
      funext k
      show (if k = 19 then _ else H k) = H k
      split
      · subst_vars
        funext i
        rw [if_neg (by omega)]
      · rfl
    rw [e2]
    show (G, H) = (un G 23 (G 23 - 0), H)
    rw [e1]
  | k + 1, t, G, H, hD => by
    rw [cn_shift] at hD ⊢
    have eP : (fun i => m_dc j (t + (i + 1)) H) = (fun i => m_dc j (t + 1 + i) H) := by funext i; rw [show t + (i + 1) = t + 1 + i by omega]
    rw [eP] at hD ⊢
    by_cases c1 : m_dc j t H = true
    · have c1' : m_dc j (t + 0) H = true := c1
      rw [if_pos c1'] at hD ⊢
      have eD : cn (fun i => m_dc j (t + 1 + i) (uf H 19 (upd (H 19) t (nI 0)))) k = cn (fun i => m_dc j (t + 1 + i) H) k := cn_ext k (fun i hi => by
        show m_dc j (t + 1 + i) (uf H 19 (upd (H 19) t (nI 0))) = m_dc j (t + 1 + i) H
        unfold m_dc
        rw [show (uf H 19 (upd (H 19) t (nI 0))) 19 (t + 1 + i) = H 19 (t + 1 + i) from by rw [uf_s, upd_n (by omega)]]
        rfl)
      have e23 : un G 23 (G 23 - 1) 23 = G 23 - 1 := un_s
      obtain ⟨s1, s2⟩ := dl_spec j k (t + 1) (un G 23 (G 23 - 1)) (uf H 19 (upd (H 19) t (nI 0))) (by rw [eD, e23]; omega)
      refine ⟨by rw [m_ds, if_pos c1]; exact ⟨by omega, s1⟩, ?_⟩
      rw [m_dl, if_pos c1, s2, eD, e23]
      congr 1
      · funext i
        show (if i = 23 then _ else if i = 23 then _ else G i) = (if i = 23 then _ else G i)
        split
        · omega
        · rfl
      · funext u
        show (if u = 19 then _ else if u = 19 then _ else H u) = (if u = 19 then _ else H u)
        split
        · funext i
          by_cases ci : i = t
          · subst ci
            rw [if_neg (by omega), if_pos ⟨by omega, by omega, c1⟩, uf_s, upd_s]
          · have em : m_dc j i (uf H 19 (upd (H 19) t (nI 0))) = m_dc j i H := by
              unfold m_dc
              rw [show (uf H 19 (upd (H 19) t (nI 0))) 19 i = H 19 i from by rw [uf_s, upd_n ci]]
              rfl
            rw [em, show (uf H 19 (upd (H 19) t (nI 0))) 19 i = H 19 i from by rw [uf_s, upd_n ci]]
            by_cases cj : t + 1 ≤ i ∧ i < t + 1 + k ∧ m_dc j i H = true
            · rw [if_pos cj, if_pos ⟨by omega, by omega, cj.2.2⟩]
            · rw [if_neg cj, if_neg (fun q => cj ⟨by omega, by omega, q.2.2⟩)]
        · rfl
    · have c1' : ¬ m_dc j (t + 0) H = true := c1
      rw [if_neg c1'] at hD ⊢
      obtain ⟨s1, s2⟩ := dl_spec j k (t + 1) G H (by omega)
      refine ⟨by rw [m_ds, if_neg c1]; exact s1, ?_⟩
      rw [m_dl, if_neg c1, s2]
      congr 1
      · rw [Nat.zero_add]
      · funext u
        show (if u = 19 then _ else H u) = (if u = 19 then _ else H u)
        split
        · funext i
          by_cases ci : i = t
          · subst ci
            rw [if_neg (by omega), if_neg (fun q => c1 q.2.2)]
          · by_cases cj : t + 1 ≤ i ∧ i < t + 1 + k ∧ m_dc j i H = true
            · rw [if_pos cj, if_pos ⟨by omega, by omega, cj.2.2⟩]
            · rw [if_neg cj, if_neg (fun q => cj ⟨by omega, by omega, q.2.2⟩)]
        · rfl
theorem RA_wr {K t : Nat} {n g N G : Nat → Nat} (h0 : RA c n g) (r : RA c N G) (e9 : N 9 = n 9 - K) (e3 : N 3 = n 3) (e10 : N 10 = n 10) (ht : t ≤ 8) (hK : K ≤ n 9) : RA c (un (un N 11 t) 3 (N 3 + K)) (un (un (un G 26 (G 26 + K)) 23 (t + 1)) 23 t) := by
  unfold RA at h0 r ⊢
  simp only [un]
  simp
  omega
theorem Rel_wrong {j t : Nat} (r : Rel c n f g h) (hj : j < 8) (ht : t < n 11) (et : f 18 t = nI j) (ett : x_turn n f (nI j) = nI t) (hc : c + 1 < 100000) : ∃ bv K, f 17 j = nI bv ∧ h 20 j = nI bv ∧ n 10 + n 9 = bv + K ∧ g 25 + g 10 = bv + K ∧ x_ws K n f ∧ m_ws K (un g 0 0) h ∧ x_turn (x_wk K n f).1 (x_wk K n f).2 (nI j) = nI t ∧ t < (x_wk K n f).1 11 ∧ (x_wk K n f).1 3 + K < 1000000 ∧ (m_wk K (un g 0 0) h).1 26 + K < 1000000 ∧
    m_ds j 8 0 (un (m_wk K (un g 0 0) h).1 26 ((m_wk K (un g 0 0) h).1 26 + K)) (m_wk K (un g 0 0) h).2 ∧
    Rel (c + 1) (un (un (x_wk K n f).1 11 t) 3 ((x_wk K n f).1 3 + K)) (x_wk K n f).2 (un (m_dl j 8 0 (un (m_wk K (un g 0 0) h).1 26 ((m_wk K (un g 0 0) h).1 26 + K)) (m_wk K (un g 0 0) h).2).1 23 (((m_dl j 8 0 (un (m_wk K (un g 0 0) h).1 26 ((m_wk K (un g 0 0) h).1 26 + K)) (m_wk K (un g 0 0) h).2).1 23) - 1)) (uf (m_dl j 8 0 (un (m_wk K (un g 0 0) h).1 26 ((m_wk K (un g 0 0) h).1 26 + K)) (m_wk K (un g 0 0) h).2).2 19 (upd ((m_dl j 8 0 (un (m_wk K (un g 0 0) h).1 26 ((m_wk K (un g 0 0) h).1 26 + K)) (m_wk K (un g 0 0) h).2).2 19) j (nI 0))) := by
  have hA := r.1.1
  unfold RA at hA
  have hcn := cn_mk r.2
  obtain ⟨r0, mk, bf, ag, h1, h2, h3⟩ := r
  obtain ⟨a1, a2, a3, a4, a5, a6, a7, a8, a9⟩ := h1 t ht
  have ej : mk t = j := (nI_eq (by omega) (by omega)).mp (by rw [← a2, et])
  rw [ej] at a1 a3 a4 a5 a6
  have hK : n 10 + n 9 - bf t ≤ n 9 := by omega
  obtain ⟨s1, s2, s3, s4, s5, s6, s7, s8, s9⟩ := tb_all (n 10 + n 9 - bf t) n (un g 0 0) f h (Rel0_g r0 (by omega)) hK
  have hbK : n 10 + n 9 = bf t + (n 10 + n 9 - bf t) := by omega
  generalize n 10 + n 9 - bf t = K at *
  have s11 := s5 11 (by decide) (by decide)
  have s3' := s5 3 (by decide) (by decide)
  have s10 := s5 10 (by decide) (by decide)
  have hturn : x_turn (x_wk K n f).1 (x_wk K n f).2 (nI j) = nI t := by
    rw [← ett]; unfold x_turn; rw [s11]; exact x_tf_ext s7 _ _
  refine ⟨bf t, K, a4, a5, hbK, by omega, s1, s2, ?_⟩
  have hB := s3.1
  have h19 := s9 19 (Or.inl rfl)
  have h20 := s9 20 (Or.inr (Or.inl rfl))
  have h21 := s9 21 (Or.inr (Or.inr rfl))
  clear s1 s2
  generalize (x_wk K n f).1 = N at *
  generalize (x_wk K n f).2 = F at *
  generalize (m_wk K (un g 0 0) h).1 = G at *
  generalize (m_wk K (un g 0 0) h).2 = H at *
  have hB' := hB
  unfold RA at hB'
  have g26 : (un G 26 (G 26 + K)) 23 = n 11 := by show G 23 = n 11; omega
  -- which marks go
  have dc : ∀ s, s < n 11 → (m_dc j (mk s) H = true ↔ t < s) := fun s hs => by
    obtain ⟨b1, b2, b3, b4, b5, b6, b7, b8, b9⟩ := h1 s hs
    unfold m_dc
    rw [h19, h21, b6, a6]
    have hm : ¬ h 19 (mk s) = 0 := b3
    simp only [hm, decide_false, Bool.not_false, Bool.true_and, Bool.and_eq_true, Bool.not_eq_true', decide_eq_false_iff_not, nI_leI (show ag s < 2 ^ 31 by omega) (show ag t < 2 ^ 31 by omega)]
    constructor
    · rintro ⟨q1, q2⟩
      rcases Nat.lt_trichotomy s t with c1 | c1 | c1
      · have := (h2 s t c1 ht).2.2; omega
      · subst c1; exact absurd ej q1
      · exact c1
    · intro q
      have := h2 t s q hs
      exact ⟨fun e => this.1 (by rw [ej, e]), by omega⟩
  have dcm : ∀ i, m_dc j i H = true → ¬ h 19 i = 0 := fun i q => by
    unfold m_dc at q
    rw [h19] at q
    simp only [Bool.and_eq_true, Bool.not_eq_true', decide_eq_false_iff_not] at q
    exact q.1
  have hkeep : cn (fun i => !decide (h 19 i = 0) && !m_dc j i H) 8 = t + 1 := by
    refine cn_img (mk := mk) (t + 1) _ (fun s u hs hu => (h2 s u hs (by omega)).1) (fun s hs => (h1 s (by omega)).1) (fun i hi => ?_)
    simp only [Bool.and_eq_true, Bool.not_eq_true', decide_eq_false_iff_not]
    constructor
    · rintro ⟨q1, q2⟩
      obtain ⟨s, hs, es⟩ := h3 i hi q1
      refine ⟨s, ?_, es⟩
      rcases Nat.lt_or_ge s (t + 1) with c1 | c1
      · exact c1
      · have := (dc s hs).mpr (by omega)
        rw [es, q2] at this; exact absurd this (by decide)
    · rintro ⟨s, hs, es⟩
      refine ⟨by rw [← es]; exact (h1 s (by omega)).2.2.1, ?_⟩
      cases cd : m_dc j i H with
      | false => rfl
      | true =>
        rw [← es] at cd
        have := (dc s (by omega)).mp cd
        omega
  have hsplit := cn_split (P := fun i => !decide (h 19 i = 0)) (Q := fun i => m_dc j i H) 8
  have hdrop : cn (fun i => (!decide (h 19 i = 0)) && m_dc j i H) 8 = cn (fun i => m_dc j (0 + i) H) 8 := cn_ext 8 (fun i hi => by
    show ((!decide (h 19 i = 0)) && m_dc j i H) = m_dc j (0 + i) H
    rw [Nat.zero_add]
    cases cd : m_dc j i H with
    | false => simp
    | true => have := dcm i cd; simp [this])
  rw [hdrop] at hsplit
  have hkeep' : cn (fun i => (!decide (h 19 i = 0)) && !m_dc j i H) 8 = t + 1 := hkeep
  rw [hkeep', hcn] at hsplit
  obtain ⟨d1, d2⟩ := dl_spec j 8 0 (un G 26 (G 26 + K)) H (by rw [g26]; omega)
  refine ⟨hturn, by omega, by omega, by omega, d1, ?_⟩
  rw [d2, g26]
  have e1 : n 11 - cn (fun i => m_dc j (0 + i) H) 8 = t + 1 := by omega
  rw [e1]
  show Rel (c + 1) (un (un N 11 t) 3 (N 3 + K)) F (un (un (un G 26 (G 26 + K)) 23 (t + 1)) 23 (un (un G 26 (G 26 + K)) 23 (t + 1) 23 - 1)) _
  rw [show un (un G 26 (G 26 + K)) 23 (t + 1) 23 - 1 = t from rfl]
  obtain ⟨_, rB, rC, rD, rV, rN⟩ := s3
  have hRA := RA_wr (K := K) (t := t) r0.1 hB s4 s3' s10 (by omega) hK
  refine ⟨⟨by unfold RA at hRA ⊢; omega, rB, rC, rD, rV, rN⟩, ?_⟩
  have e22 : (un (un (un G 26 (G 26 + K)) 23 (t + 1)) 23 t) 22 = g 22 := by show G 22 = g 22; rw [s8]; rfl
  show RM (N 10) (N 10 + N 9) t ((un (un (un G 26 (G 26 + K)) 23 (t + 1)) 23 t) 22) (F 17) (F 18) (upd (fun i => if 0 ≤ i ∧ i < 0 + 8 ∧ m_dc j i H = true then nI 0 else H 19 i) j (nI 0)) (H 20) (H 21)
  rw [e22, s6, s7, h20, h21, h19, s10, s4, show n 10 + (n 9 - K) = bf t by omega]
  refine ⟨mk, bf, ag, fun s hs => ?_, fun s u hs hu => h2 s u hs (by omega), fun i hi hm => ?_⟩
  · obtain ⟨b1, b2, b3, b4, b5, b6, b7, b8, b9⟩ := h1 s (by omega)
    have hst := h2 s t hs ht
    refine ⟨b1, b2, ?_, b4, b5, b6, b7, hst.2.1, b9⟩
    have ne : mk s ≠ j := fun q => hst.1 (by rw [q, ej])
    rw [upd_n ne, if_neg (fun q => by have := (dc s (by omega)).mp q.2.2; omega)]
    exact b3
  · by_cases ci : i = j
    · subst ci; rw [upd_s] at hm; exact absurd rfl hm
    · rw [upd_n ci] at hm
      by_cases cd : 0 ≤ i ∧ i < 0 + 8 ∧ m_dc j i H = true
      · rw [if_pos cd] at hm; exact absurd rfl hm
      · rw [if_neg cd] at hm
        obtain ⟨s, hs, es⟩ := h3 i hi hm
        refine ⟨s, ?_, es⟩
        rcases Nat.lt_trichotomy s t with c1 | c1 | c1
        · exact c1
        · subst c1; exact absurd (es.symm.trans ej) ci
        · exact absurd ⟨Nat.zero_le _, by omega, by rw [← es]; exact (dc s hs).mpr c1⟩ cd
/-! the beginning; count -/
theorem cn_id {q : Nat} (hq : q < 1000) : ∀ k, k < 1000 → cn (fun r => decide (nI r = nI q)) k = if q < k then 1 else 0
  | 0, _ => rfl
  | k + 1, hk => by
    rw [cn, cn_id hq k (by omega)]
    have n2 : (nI k = nI q) ↔ k = q := nI_eq (by omega) (by omega)
    simp only [n2, decide_eq_true_eq]
    split <;> split <;> split <;> omega
theorem Rel_init {R E N : Nat} (hR : 1 ≤ R ∧ R ≤ 32) (hE : 1 ≤ E ∧ E ≤ 64) (hN : 1 ≤ N ∧ N ≤ 64) : Rel 0 (x_n0 R E N) (x_f0 R E) (m_n0 R E N) (m_h0 R E) := by
  refine ⟨⟨?_, ?_, ?_, ?_, ?_, ?_, ?_⟩, ?_⟩
  · unfold RA x_n0 m_n0
    simp only [un]
    simp
    omega
  · refine ⟨?_, ?_, ?_, ?_, ?_, ?_, ?_⟩ <;> exact fun i hi => absurd (show i < 0 from hi) (by omega)
  · intro k hk
    have hk' : k < E := hk
    show x_qu R E (x_slot (x_n0 R E N) k) = x_qu R E k
    have e : x_slot (x_n0 R E N) k = k := by
      show (if 0 + k < R + E then 0 + k else 0 + k - (R + E)) = k
      rw [if_pos (by omega)]; omega
    rw [e]
  · exact ⟨fun _ _ => rfl, fun _ _ => rfl, fun _ _ => rfl, fun _ _ => rfl, fun _ _ => rfl⟩
  · exact fun i hi => absurd (show i < 0 from hi) (by omega)
  · refine ⟨fun i hi => absurd (show i < 0 from hi) (by omega), fun r hr => ⟨r, ?_, ?_⟩, fun i r hi => absurd (show i < 0 from hi) (by omega), fun r hr => rfl⟩
    · have : r < R := hr
      show r < R + E
      omega
    · have : r < R := hr
      show (if r < R then nI r else 0) = nI r
      rw [if_pos this]
  · have hsc : ∀ q, q < R + E → sc (m_h0 R E 5) (m_h0 R E 16) (m_h0 R E 14) R 0 q = if q < R then 1 else 0 := fun q hq => by
      unfold sc
      rw [show cn (fun i => !decide (m_h0 R E 16 i = -1) && decide (m_h0 R E 14 i = nI q)) 0 = 0 from rfl, Nat.add_zero, ← cn_id (show q < 1000 by omega) R (by omega)]
      refine cn_ext R (fun r hr => ?_)
      show decide ((if r < R then nI r else 0) = nI q) = decide (nI r = nI q)
      rw [if_pos hr]
    refine ⟨fun q hq => ?_, fun j hj => ?_, fun i j hij hj => ?_⟩
    · have hq' : q < R + E := hq
      show (if q < R then nI 1 else 0) = nI (sc (m_h0 R E 5) (m_h0 R E 16) (m_h0 R E 14) R 0 q) ∧ sc (m_h0 R E 5) (m_h0 R E 16) (m_h0 R E 14) R 0 q < 1000
      rw [hsc q hq']
      by_cases c1 : q < R
      · rw [if_pos c1, if_pos c1]; exact ⟨rfl, by omega⟩
      · rw [if_neg c1, if_neg c1]; exact ⟨nI_0.symm, by omega⟩
    · have hj' : j < E := hj
      refine ⟨R + j, show R + j < R + E by omega, ?_, ?_⟩
      · show (if j < E then nI (R + j) else 0) = nI (R + j)
        rw [if_pos hj']
      · show sc (m_h0 R E 5) (m_h0 R E 16) (m_h0 R E 14) R 0 (R + j) = 0
        rw [hsc _ (by omega), if_neg (by omega)]
    · have hj' : j < E := hj
      show ¬ (if i < E then nI (R + i) else 0) = (if j < E then nI (R + j) else 0)
      rw [if_pos (by omega), if_pos hj']
      exact nI_ne (by omega) (by omega) (by omega)
  · refine ⟨fun _ => 0, fun _ => 0, fun _ => 0, fun t ht => absurd (show t < 0 from ht) (by omega), fun s t _ ht => absurd (show t < 0 from ht) (by omega), fun j hj hm => absurd (show m_h0 R E 19 j = 0 from rfl) hm⟩
theorem ct_eq (r : Rel c n f g h) : ∀ k, x_ct n k = m_ct g k := by
  have hA := r.1.1
  unfold RA at hA
  obtain ⟨-, ⟨e1, e2, e3⟩, -, ⟨e4, e5, e6, e7, e8, e9, e10, e11⟩, -⟩ := hA
  intro k
  match k with
  | 0 => simp only [x_ct, m_ct, e1]
  | 1 => simp only [x_ct, m_ct, e2]
  | 2 => simp only [x_ct, m_ct, e3]
  | 3 => simp only [x_ct, m_ct, e6]
  | 4 => simp only [x_ct, m_ct, e4]
  | 5 => simp only [x_ct, m_ct, e8]
  | 6 => simp only [x_ct, m_ct, e7]
  | 7 => simp only [x_ct, m_ct, e9]
  | 8 => simp only [x_ct, m_ct, e6, e5, x_old]
  | 9 => simp only [x_ct, m_ct, e10]
  | 10 => simp only [x_ct, m_ct, e11]
  | _ + 11 => rfl
end
