/-! my own: what thrown says behind commit and wrong -/
theorem b_nf {b : Bool} (h : ¬ b = false) : b = true := by cases b with | true => rfl | false => exact absurd rfl h
theorem st_0 {g : Nat → Nat} {h : Nat → Nat → Int32} : m_stN g h 0 = g 0 := by
  unfold m_stN m_cgN
  split
  · rfl
  · show m_gN _ _ _ 0 = _
    rw [m_gN_o (by decide)]
theorem cm_g0 (ka : Nat) : ∀ (K v : Nat) (g : Nat → Nat) (h : Nat → Nat → Int32), (m_cm ka K v g h).2.1 0 = g 0
  | 0, _, _, _ => rfl
  | K + 1, v, g, h => by
    rw [m_cm]
    split
    · rw [cm_g0 ka K]; exact st_0
    · rfl
theorem cm_0 (ka K v : Nat) (g : Nat → Nat) (h : Nat → Nat → Int32) : (m_cm ka K v (un g 0 0) h).2.1 0 = 0 := by rw [cm_g0]; rfl
theorem wk_g0 : ∀ (K : Nat) (g : Nat → Nat) (h : Nat → Nat → Int32), (m_wk K g h).1 0 = g 0
  | 0, _, _ => rfl
  | K + 1, g, h => by rw [m_wk, wk_g0 K, m_wN_o (by decide) (by decide)]
theorem dl_g0 (j : Nat) : ∀ (K t : Nat) (g : Nat → Nat) (h : Nat → Nat → Int32), (m_dl j K t g h).1 0 = g 0
  | 0, _, _, _ => rfl
  | K + 1, t, g, h => by
    rw [m_dl]
    split
    · rw [dl_g0 j K]; rfl
    · rw [dl_g0 j K]
theorem wr_0 (j K : Nat) (g : Nat → Nat) (h : Nat → Nat → Int32) : (un (m_dl j 8 0 (un (m_wk K (un g 0 0) h).1 26 ((m_wk K (un g 0 0) h).1 26 + K)) (m_wk K (un g 0 0) h).2).1 23 (((m_dl j 8 0 (un (m_wk K (un g 0 0) h).1 26 ((m_wk K (un g 0 0) h).1 26 + K)) (m_wk K (un g 0 0) h).2).1 23) - 1)) 0 = 0 := by
  rw [un_n (by decide), dl_g0, un_n (by decide), wk_g0]; rfl
/-! my own: one call of the law on both sides -/
theorem updL_0 {z : Nat → Int64} {x : Int64} : vp_updL z (nI 0).toNatClampNeg x 0 = x := by
  have : (nI 0).toNatClampNeg = 0 := nI_clamp (by decide)
  rw [this]; simp [vp_updL]
def OpR (l : Launch) (dC : Nat → ClassId) (dI : Nat → Nat → Nat) (cs : ClassId × ClassId) (c3 : ClassId) (a b : Nat → Nat) (o : Nat) (yL : MethodName) (wsL : List Cond) (yM : MethodName) (wsM : List Cond) (ys : List Value) (c : Nat) (n : Nat → Nat) (f : Nat → Nat → Int32) (g : Nat → Nat) (h : Nat → Nat → Int32) : Prop :=
  ∀ (z : Nat → Int64), ∃ (n' : Nat → Nat) (f' : Nat → Nat → Int32) (g' : Nat → Nat) (h' : Nat → Nat → Int32) (z' : Nat → Int64) (k : Nat) (r : Int32),
    (∀ sz : Nat, Met l yL wsL ({ frames := 9, cells := 1, slots := 6, locals := 200 }) (hpPc (dC, dI) vwCl (wX cs a n f ++ ((o, .inl (c3, 1, .inr (.inl z))) :: wM cs b g h)) (tyl3 cs c3) sz (.ref (a 0) :: (ys ++ [.ref o]))) (wrQ (dC, dI) vwCl (wX cs a n' f' ++ ((o, .inl (c3, 1, .inr (.inl z'))) :: wM cs b g h)) (some (.int (nI k))) (va_A (wX cs a n f ++ ((o, .inl (c3, 1, .inr (.inl z))) :: wM cs b g h)) sz)) 1 6 (va_A (wX cs a n f ++ ((o, .inl (c3, 1, .inr (.inl z))) :: wM cs b g h)) sz)) ∧
    (∃ rm : Room, rm.cells = 0 ∧ rm.slots = 0 ∧ rm.frames ≤ 5 ∧ rm.locals ≤ 108 ∧ ∀ sz2 : Nat, Met l yM wsM rm (wrPc (dC, dI) vwCl (wM cs b g h) (tyl cs) sz2 (.ref (b 0) :: ys)) (wrQ (dC, dI) vwCl (wM cs b g' h') (some (.int r)) (va_A (wM cs b g h) sz2)) 0 0 (va_A (wM cs b g h) sz2)) ∧
    g' 0 = k ∧ k < 4 ∧ (k = 0 → z' 0 = r.toInt64) ∧ Rel (c + 1) n' f' g' h'
section
variable {c : Nat} {n g : Nat → Nat} {f h : Nat → Nat → Int32}
theorem op_selected (l : Launch) (hlt : l.stackTraces = false) (dC : Nat → ClassId) (dI : Nat → Nat → Nat) (cs : ClassId × ClassId) (c3 : ClassId) (a b : Nat → Nat) (o : Nat) (r : Rel c n f g h) (hc : c + 1 < 100000) (y0 : Int32) : OpR l dC dI cs c3 a b o yL_selected wsL_selected yX4_selected wsX4_selected [.int y0] c n f g h := by
  intro z
  have hA := r.1.1
  have hB := RA_x hA
  have hM := RA_m hA
  unfold RA at hA
  have e1 : 8 = 8 := by omega
  by_cases hv : inB y0 (8) = false
  · exact ⟨_, _, _, _, _, 1, _, fun sz => hl_selected_t1 l dC dI cs c3 a n f sz o z (wM cs b g h) y0 (({ frames := 7, cells := 1, slots := 6, locals := 95 } : Room)) rfl rfl (by decide) (by decide) (t_X3_selected_A l hlt dC dI cs a n f y0 hv hB), ⟨({ frames := 1, cells := 0, slots := 0, locals := 23 } : Room), rfl, rfl, by decide, by decide, fun sz2 => c_X4_selected_x l dC dI cs b g h sz2 y0 (by exact hv) hM⟩, rfl, by decide, fun q => absurd q (by decide), Rel_thr r (by decide) hc⟩
  · obtain ⟨j, hj, rfl⟩ := inB_t (b_nf hv) (by omega)
    have er : f 6 j = h 24 j := r.1.2.2.2.1.2.2.1 j hj
    exact ⟨_, _, _, _, _, 0, _, fun sz => hl_selected_r l dC dI cs c3 a n f sz o z (wM cs b g h) (nI j) _ (({ frames := 0, cells := 0, slots := 0, locals := 0 } : Room)) rfl rfl (by decide) (by decide) (c_X3_selected l dC dI cs a n f j hB hj), ⟨({ frames := 1, cells := 0, slots := 0, locals := 23 } : Room), rfl, rfl, by decide, by decide, fun sz2 => c_X4_selected_v l dC dI cs b g h sz2 j hM (by omega)⟩, rfl, by decide, fun _ => by rw [updL_0, er], Rel_thr r (by decide) hc⟩
theorem op_name (l : Launch) (hlt : l.stackTraces = false) (dC : Nat → ClassId) (dI : Nat → Nat → Nat) (cs : ClassId × ClassId) (c3 : ClassId) (a b : Nat → Nat) (o : Nat) (r : Rel c n f g h) (hc : c + 1 < 100000) (y0 : Int32) : OpR l dC dI cs c3 a b o yL_name wsL_name yX4_name wsX4_name [.int y0] c n f g h := by
  intro z
  have hA := r.1.1
  have hB := RA_x hA
  have hM := RA_m hA
  unfold RA at hA
  have e1 : g 1 = n 0 := by omega
  by_cases hv : inB y0 (n 0) = false
  · exact ⟨_, _, _, _, _, 1, _, fun sz => hl_name_t1 l dC dI cs c3 a n f sz o z (wM cs b g h) y0 (({ frames := 7, cells := 1, slots := 6, locals := 95 } : Room)) rfl rfl (by decide) (by decide) (t_X3_name_A l hlt dC dI cs a n f y0 hv hB), ⟨({ frames := 1, cells := 0, slots := 0, locals := 23 } : Room), rfl, rfl, by decide, by decide, fun sz2 => c_X4_name_x l dC dI cs b g h sz2 y0 (by rw [e1]; exact hv) hM⟩, rfl, by decide, fun q => absurd q (by decide), Rel_thr r (by decide) hc⟩
  · obtain ⟨j, hj, rfl⟩ := inB_t (b_nf hv) (by omega)
    have er : f 4 j = h 4 j := r.1.2.2.2.1.1 j hj
    exact ⟨_, _, _, _, _, 0, _, fun sz => hl_name_r l dC dI cs c3 a n f sz o z (wM cs b g h) (nI j) _ (({ frames := 1, cells := 0, slots := 0, locals := 21 } : Room)) rfl rfl (by decide) (by decide) (c_X3_name l dC dI cs a n f j hB hj), ⟨({ frames := 1, cells := 0, slots := 0, locals := 23 } : Room), rfl, rfl, by decide, by decide, fun sz2 => c_X4_name_v l dC dI cs b g h sz2 j hM (by omega)⟩, rfl, by decide, fun _ => by rw [updL_0, er], Rel_thr r (by decide) hc⟩
theorem op_sure (l : Launch) (hlt : l.stackTraces = false) (dC : Nat → ClassId) (dI : Nat → Nat → Nat) (cs : ClassId × ClassId) (c3 : ClassId) (a b : Nat → Nat) (o : Nat) (r : Rel c n f g h) (hc : c + 1 < 100000) (y0 : Int32) : OpR l dC dI cs c3 a b o yL_sure wsL_sure yX4_sure wsX4_sure [.int y0] c n f g h := by
  intro z
  have hA := r.1.1
  have hB := RA_x hA
  have hM := RA_m hA
  unfold RA at hA
  have e1 : g 1 = n 0 := by omega
  by_cases hv : inB y0 (n 0) = false
  · exact ⟨_, _, _, _, _, 1, _, fun sz => hl_sure_t1 l dC dI cs c3 a n f sz o z (wM cs b g h) y0 (({ frames := 7, cells := 1, slots := 6, locals := 95 } : Room)) rfl rfl (by decide) (by decide) (t_X3_sure_A l hlt dC dI cs a n f y0 hv hB), ⟨({ frames := 1, cells := 0, slots := 0, locals := 23 } : Room), rfl, rfl, by decide, by decide, fun sz2 => c_X4_sure_x l dC dI cs b g h sz2 y0 (by rw [e1]; exact hv) hM⟩, rfl, by decide, fun q => absurd q (by decide), Rel_thr r (by decide) hc⟩
  · obtain ⟨j, hj, rfl⟩ := inB_t (b_nf hv) (by omega)
    have er : f 5 j = h 5 j := r.1.2.2.2.1.2.1 j hj
    exact ⟨_, _, _, _, _, 0, _, fun sz => hl_sure_r l dC dI cs c3 a n f sz o z (wM cs b g h) (nI j) _ (({ frames := 1, cells := 0, slots := 0, locals := 21 } : Room)) rfl rfl (by decide) (by decide) (c_X3_sure l dC dI cs a n f j hB hj), ⟨({ frames := 1, cells := 0, slots := 0, locals := 23 } : Room), rfl, rfl, by decide, by decide, fun sz2 => c_X4_sure_v l dC dI cs b g h sz2 j hM (by omega)⟩, rfl, by decide, fun _ => by rw [updL_0, er], Rel_thr r (by decide) hc⟩
theorem op_shares (l : Launch) (hlt : l.stackTraces = false) (dC : Nat → ClassId) (dI : Nat → Nat → Nat) (cs : ClassId × ClassId) (c3 : ClassId) (a b : Nat → Nat) (o : Nat) (r : Rel c n f g h) (hc : c + 1 < 100000) (y0 : Int32) : OpR l dC dI cs c3 a b o yL_shares wsL_shares yX4_shares wsX4_shares [.int y0] c n f g h := by
  intro z
  have hA := r.1.1
  have hB := RA_x hA
  have hM := RA_m hA
  unfold RA at hA
  have e1 : g 2 = n 1 := by omega
  by_cases hv : inB y0 (n 1) = false
  · exact ⟨_, _, _, _, _, 1, _, fun sz => hl_shares_t1 l dC dI cs c3 a n f sz o z (wM cs b g h) y0 (({ frames := 7, cells := 1, slots := 6, locals := 95 } : Room)) rfl rfl (by decide) (by decide) (t_X3_shares_A l hlt dC dI cs a n f y0 hv hB), ⟨({ frames := 1, cells := 0, slots := 0, locals := 23 } : Room), rfl, rfl, by decide, by decide, fun sz2 => c_X4_shares_x l dC dI cs b g h sz2 y0 (by rw [e1]; exact hv) hM⟩, rfl, by decide, fun q => absurd q (by decide), Rel_thr r (by decide) hc⟩
  · obtain ⟨j, hj, rfl⟩ := inB_t (b_nf hv) (by omega)
    have er : f 7 j = h 6 j := r.1.2.2.2.1.2.2.2.1 j hj
    exact ⟨_, _, _, _, _, 0, _, fun sz => hl_shares_r l dC dI cs c3 a n f sz o z (wM cs b g h) (nI j) _ (({ frames := 2, cells := 0, slots := 0, locals := 42 } : Room)) rfl rfl (by decide) (by decide) (c_X3_shares l dC dI cs a n f j hB hj), ⟨({ frames := 1, cells := 0, slots := 0, locals := 23 } : Room), rfl, rfl, by decide, by decide, fun sz2 => c_X4_shares_v l dC dI cs b g h sz2 j hM (by omega)⟩, rfl, by decide, fun _ => by rw [updL_0, er], Rel_thr r (by decide) hc⟩
theorem op_queue (l : Launch) (hlt : l.stackTraces = false) (dC : Nat → ClassId) (dI : Nat → Nat → Nat) (cs : ClassId × ClassId) (c3 : ClassId) (a b : Nat → Nat) (o : Nat) (r : Rel c n f g h) (hc : c + 1 < 100000) (y0 : Int32) : OpR l dC dI cs c3 a b o yL_queue wsL_queue yX4_queue wsX4_queue [.int y0] c n f g h := by
  intro z
  have hA := r.1.1
  have hB := RA_x hA
  have hM := RA_m hA
  unfold RA at hA
  have e1 : g 9 = n 7 := by omega
  by_cases hv : inB y0 (n 7) = false
  · exact ⟨_, _, _, _, _, 1, _, fun sz => hl_queue_t1 l dC dI cs c3 a n f sz o z (wM cs b g h) y0 (({ frames := 6, cells := 1, slots := 6, locals := 82 } : Room)) rfl rfl (by decide) (by decide) (t_X3_queue_G l hlt dC dI cs a n f y0 hv hB), ⟨({ frames := 1, cells := 0, slots := 0, locals := 23 } : Room), rfl, rfl, by decide, by decide, fun sz2 => c_X4_queue_x l dC dI cs b g h sz2 y0 (by rw [e1]; exact hv) hM⟩, rfl, by decide, fun q => absurd q (by decide), Rel_thr r (by decide) hc⟩
  · obtain ⟨j, hj, rfl⟩ := inB_t (b_nf hv) (by omega)
    have er : f 9 (x_slot n j) = h 8 j := r.1.2.2.1 j hj
    exact ⟨_, _, _, _, _, 0, _, fun sz => hl_queue_r l dC dI cs c3 a n f sz o z (wM cs b g h) (nI j) _ (({ frames := 2, cells := 0, slots := 0, locals := 43 } : Room)) rfl rfl (by decide) (by decide) (c_X3_queue l dC dI cs a n f j hB hj), ⟨({ frames := 1, cells := 0, slots := 0, locals := 23 } : Room), rfl, rfl, by decide, by decide, fun sz2 => c_X4_queue_v l dC dI cs b g h sz2 j hM (by omega)⟩, rfl, by decide, fun _ => by rw [updL_0, er], Rel_thr r (by decide) hc⟩
theorem op_dispatch (l : Launch) (hlt : l.stackTraces = false) (dC : Nat → ClassId) (dI : Nat → Nat → Nat) (cs : ClassId × ClassId) (c3 : ClassId) (a b : Nat → Nat) (o : Nat) (r : Rel c n f g h) (hc : c + 1 < 100000) (y0 y1 y2 : Int32) : OpR l dC dI cs c3 a b o yL_dispatch wsL_dispatch yX4_dispatch wsX4_dispatch [.int y0, .int y1, .int y2] c n f g h := by
  intro z
  have hA := r.1.1
  have hB := RA_x hA
  have hM := RA_m hA
  unfold RA at hA
  have e1 : g 1 = n 0 := by omega
  by_cases hv : ((decide (y0 = -1) || inB y0 (n 0)) && ((decide (y1 = -1) || inB y1 (n 0)) && (decide (y2 = -1) || inB y2 (n 0)))) = false
  · exact ⟨_, _, _, _, _, 1, _, fun sz => hl_dispatch_t1 l dC dI cs c3 a n f sz o z (wM cs b g h) y0 y1 y2 (({ frames := 7, cells := 1, slots := 6, locals := 95 } : Room)) rfl rfl (by decide) (by decide) (t_X3_dispatch_A l hlt dC dI cs a n f y0 y1 y2 hv hB), ⟨({ frames := 1, cells := 0, slots := 0, locals := 23 } : Room), rfl, rfl, by decide, by decide, fun sz2 => c_X4_dispatch_x l dC dI cs b g h sz2 y0 y1 y2 (by rw [e1]; exact hv) hM⟩, rfl, by decide, fun q => absurd q (by decide), Rel_thr r (by decide) hc⟩
  · have hv' := b_nf hv
    rw [Bool.and_eq_true, Bool.and_eq_true] at hv'
    obtain ⟨v1, v2, v3⟩ := hv'
    by_cases hf : n 2 ≤ n 9
    · exact ⟨_, _, _, _, _, 0, _, fun sz => hl_dispatch_w l dC dI cs c3 a n f sz o z (wM cs b g h) y0 y1 y2 _ _ _ (({ frames := 2, cells := 0, slots := 0, locals := 42 } : Room)) rfl rfl (by decide) (by decide) (c_X3_dispatch_full l dC dI cs a n f sz y0 y1 y2 v1 v2 v3 hB hf), ⟨({ frames := 1, cells := 0, slots := 0, locals := 23 } : Room), rfl, rfl, by decide, by decide, fun sz2 => c_X4_dispatch_full l dC dI cs b g h sz2 y0 y1 y2 (by rw [e1]; exact v1) (by rw [e1]; exact v2) (by rw [e1]; exact v3) hM (by omega)⟩, rfl, by decide, fun _ => updL_0, Rel_full r hc⟩
    · have ca := cur_eq r.1 v1
      have cb := cur_eq r.1 v2
      have ep : nI (m_pos g (g 10)) = nI (x_pos n (n 9)) := by rw [show g 10 = n 9 by omega, RA_pos r.1.1 (by omega)]
      by_cases hd : y2 = -1
      · subst hd
        refine ⟨_, _, _, _, _, 0, _, fun sz => hl_dispatch_w l dC dI cs c3 a n f sz o z (wM cs b g h) y0 y1 (-1) _ _ _ (({ frames := 3, cells := 0, slots := 0, locals := 75 } : Room)) rfl rfl (by decide) (by decide) (c_X3_dispatch_no l dC dI cs a n f sz y0 y1 (-1) v1 v2 v3 rfl hB (by omega)), ⟨({ frames := 2, cells := 0, slots := 0, locals := 46 } : Room), rfl, rfl, by decide, by decide, fun sz2 => c_X4_dispatch_no l dC dI cs b g h sz2 y0 y1 (-1) (by rw [e1]; exact v1) (by rw [e1]; exact v2) rfl hM (by omega)⟩, rfl, by decide, fun _ => by rw [updL_0, ep], ?_⟩
        rw [← ca.1, ← cb.1]
        exact Rel_no r (by omega) ca.2 cb.2 hc
      · have hin : inB y2 (n 0) = true := by simpa [hd] using v3
        obtain ⟨j, hj, rfl⟩ := inB_t hin (by omega)
        by_cases h7 : n 7 = 0
        · exact ⟨_, _, _, _, _, 0, _, fun sz => hl_dispatch_w l dC dI cs c3 a n f sz o z (wM cs b g h) y0 y1 (nI j) _ _ _ (({ frames := 2, cells := 0, slots := 0, locals := 42 } : Room)) rfl rfl (by decide) (by decide) (c_X3_dispatch_want l dC dI cs a n f sz y0 y1 (nI j) v1 v2 v3 hd hB (by omega) h7), ⟨({ frames := 1, cells := 0, slots := 0, locals := 23 } : Room), rfl, rfl, by decide, by decide, fun sz2 => c_X4_dispatch_want l dC dI cs b g h sz2 y0 y1 j (by rw [e1]; exact v1) (by rw [e1]; exact v2) hM (by omega) (by omega) (by omega)⟩, rfl, by decide, fun _ => updL_0, Rel_want r hc⟩
        · obtain ⟨q, hq, eq, _⟩ := r.1.2.2.2.2.2.2.2.1 0 (by omega)
          have es : x_slot n 0 = n 6 := by unfold x_slot; rw [if_pos (by omega)]; rfl
          have e9 : f 9 (n 6) = nI q := by rw [← es, r.1.2.2.1 0 (by omega)]; exact eq
          refine ⟨_, _, _, _, _, 0, _, fun sz => hl_dispatch_w l dC dI cs c3 a n f sz o z (wM cs b g h) y0 y1 (nI j) _ _ _ (({ frames := 3, cells := 0, slots := 0, locals := 75 } : Room)) rfl rfl (by decide) (by decide) (c_X3_dispatch_give l dC dI cs a n f sz y0 y1 (nI j) v1 v2 v3 hd q e9 hB (by omega) (by omega) hq), ⟨({ frames := 2, cells := 0, slots := 0, locals := 46 } : Room), rfl, rfl, by decide, by decide, fun sz2 => c_X4_dispatch_give l dC dI cs b g h sz2 y0 y1 j (by rw [e1]; exact v1) (by rw [e1]; exact v2) q eq hM (by omega) (by omega) (by omega) (by omega)⟩, rfl, by decide, fun _ => by rw [updL_0, ep], ?_⟩
          rw [← ca.1, ← cb.1]
          exact Rel_give r (by omega) (by omega) hj eq hq ca.2 cb.2 hc
theorem op_move (l : Launch) (hlt : l.stackTraces = false) (dC : Nat → ClassId) (dI : Nat → Nat → Nat) (cs : ClassId × ClassId) (c3 : ClassId) (a b : Nat → Nat) (o : Nat) (r : Rel c n f g h) (hc : c + 1 < 100000) (y0 y1 : Int32) : OpR l dC dI cs c3 a b o yL_move wsL_move yX4_move wsX4_move [.int y0, .int y1] c n f g h := by
  intro z
  have hA := r.1.1
  have hB := RA_x hA
  have hM := RA_m hA
  unfold RA at hA
  have e1 : g 1 = n 0 := by omega
  by_cases hv : (inB y0 (n 0) && inB y1 (n 0)) = false
  · exact ⟨_, _, _, _, _, 1, _, fun sz => hl_move_t1 l dC dI cs c3 a n f sz o z (wM cs b g h) y0 y1 (({ frames := 7, cells := 1, slots := 6, locals := 95 } : Room)) rfl rfl (by decide) (by decide) (t_X3_move_A l hlt dC dI cs a n f y0 y1 hv hB), ⟨({ frames := 1, cells := 0, slots := 0, locals := 23 } : Room), rfl, rfl, by decide, by decide, fun sz2 => c_X4_move_x l dC dI cs b g h sz2 y0 y1 (by rw [e1]; exact hv) hM⟩, rfl, by decide, fun q => absurd q (by decide), Rel_thr r (by decide) hc⟩
  · have hv' := b_nf hv
    rw [Bool.and_eq_true] at hv'
    obtain ⟨ja, hja, rfl⟩ := inB_t hv'.1 (by omega)
    obtain ⟨jt, hjt, rfl⟩ := inB_t hv'.2 (by omega)
    by_cases hf : n 2 ≤ n 9
    · exact ⟨_, _, _, _, _, 0, _, fun sz => hl_move_w l dC dI cs c3 a n f sz o z (wM cs b g h) (nI ja) (nI jt) _ _ _ (({ frames := 1, cells := 0, slots := 0, locals := 21 } : Room)) rfl rfl (by decide) (by decide) (c_X3_move_full l dC dI cs a n f sz ja jt hB hja hjt hf), ⟨({ frames := 1, cells := 0, slots := 0, locals := 23 } : Room), rfl, rfl, by decide, by decide, fun sz2 => c_X4_move_full l dC dI cs b g h sz2 ja jt hM (by omega) (by omega) (by omega)⟩, rfl, by decide, fun _ => updL_0, Rel_full r hc⟩
    · have ep : nI (m_pos g (g 10)) = nI (x_pos n (n 9)) := by rw [show g 10 = n 9 by omega, RA_pos r.1.1 (by omega)]
      obtain ⟨q, hq, e6, _⟩ := cur_name r.1.2.2.2.2.2.1 hja (by omega) (n 9) (Nat.le_refl _)
      have e4 : h 4 ja = nI q := by rw [r.1.2.2.2.2.2.1.2.2.2 ja hja]; exact e6
      have e5 : f 4 ja = nI q := by rw [r.1.2.2.2.1.1 ja hja]; exact e4
      exact ⟨_, _, _, _, _, 0, _, fun sz => hl_move_w l dC dI cs c3 a n f sz o z (wM cs b g h) (nI ja) (nI jt) _ _ _ (({ frames := 3, cells := 0, slots := 0, locals := 75 } : Room)) rfl rfl (by decide) (by decide) (c_X3_move_go l dC dI cs a n f sz ja jt q e5 hB hja hjt (by omega) hq), ⟨({ frames := 2, cells := 0, slots := 0, locals := 46 } : Room), rfl, rfl, by decide, by decide, fun sz2 => c_X4_move_go l dC dI cs b g h sz2 ja jt q e4 hM (by omega) (by omega) (by omega) (by omega)⟩, rfl, by decide, fun _ => by rw [updL_0, ep], Rel_move r (by omega) hjt hja e4 hq hc⟩
theorem op_select (l : Launch) (hlt : l.stackTraces = false) (dC : Nat → ClassId) (dI : Nat → Nat → Nat) (cs : ClassId × ClassId) (c3 : ClassId) (a b : Nat → Nat) (o : Nat) (r : Rel c n f g h) (hc : c + 1 < 100000) (y0 : Int32) : OpR l dC dI cs c3 a b o yL_select wsL_select yX4_select wsX4_select [.int y0] c n f g h := by
  intro z
  have hA := r.1.1
  have hB := RA_x hA
  have hM := RA_m hA
  by_cases hv : y0 < nI 1 ∨ nI 8 < y0
  · exact ⟨_, _, _, _, _, 1, _, fun sz => hl_select_t1 l dC dI cs c3 a n f sz o z (wM cs b g h) y0 (({ frames := 6, cells := 1, slots := 6, locals := 82 } : Room)) rfl rfl (by decide) (by decide) (t_X3_select_G l hlt dC dI cs a n f y0 hv hB), ⟨({ frames := 1, cells := 0, slots := 0, locals := 23 } : Room), rfl, rfl, by decide, by decide, fun sz2 => c_X4_select_x l dC dI cs b g h sz2 y0 hv hM⟩, rfl, by decide, fun q => absurd q (by decide), Rel_thr r (by decide) hc⟩
  · have h1 : ¬ y0 < nI 1 := fun q => hv (Or.inl q)
    have h2 : ¬ nI 8 < y0 := fun q => hv (Or.inr q)
    have h0 : ¬ y0 < 0 := fun q => h1 (by rw [Int32.lt_iff_toInt_lt] at q ⊢; have e1 : (nI 1).toInt = 1 := (by decide); have e0 : (0 : Int32).toInt = 0 := (by decide); omega)
    obtain ⟨k, hk, rfl⟩ := nI_of h0
    rw [nI_ltI hk (by decide)] at h1
    rw [nI_ltI (by decide) hk] at h2
    obtain ⟨s1, s2⟩ := Rel_select r k hc
    exact ⟨_, _, _, _, _, 0, _, fun sz => hl_select_w l dC dI cs c3 a n f sz o z (wM cs b g h) (nI k) _ _ _ (({ frames := 5, cells := 0, slots := 0, locals := 108 } : Room)) rfl rfl (by decide) (by decide) (c_X3_select l dC dI cs a n f sz k hB (by omega) (by omega)), ⟨({ frames := 2, cells := 0, slots := 0, locals := 42 } : Room), rfl, rfl, by decide, by decide, fun sz2 => c_X4_select_v l dC dI cs b g h sz2 k (Rel0_okr r.1) hM (by omega) (by omega)⟩, rfl, by decide, fun _ => by rw [updL_0, s1], s2⟩
theorem op_commit (l : Launch) (hlt : l.stackTraces = false) (dC : Nat → ClassId) (dI : Nat → Nat → Nat) (cs : ClassId × ClassId) (c3 : ClassId) (a b : Nat → Nat) (o : Nat) (r : Rel c n f g h) (hc : c + 1 < 100000) (y0 : Int32) : OpR l dC dI cs c3 a b o yL_commit wsL_commit yX4_commit wsX4_commit [.int y0] c n f g h := by
  intro z
  have hA := r.1.1
  have hB := RA_x hA
  have hM := RA_m hA
  by_cases hv : y0 < 0
  · exact ⟨_, _, _, _, _, 1, _, fun sz => hl_commit_t1 l dC dI cs c3 a n f sz o z (wM cs b g h) y0 (({ frames := 6, cells := 1, slots := 6, locals := 82 } : Room)) rfl rfl (by decide) (by decide) (t_X3_commit_G l hlt dC dI cs a n f y0 hv hB), ⟨({ frames := 1, cells := 0, slots := 0, locals := 23 } : Room), rfl, rfl, by decide, by decide, fun sz2 => c_X4_commit_x l dC dI cs b g h sz2 y0 hv hM⟩, rfl, by decide, fun q => absurd q (by decide), Rel_thr r (by decide) hc⟩
  · obtain ⟨k, hk, rfl⟩ := nI_of hv
    obtain ⟨M, m1, m2, m3, m4, m5, m6⟩ := Rel_commit r k hc
    have m0 : (m_cm k (g 10) 0 (un g 0 0) h).2.1 0 = 0 := cm_0 k _ _ _ _
    exact ⟨_, _, _, _, _, 0, _, fun sz => hl_commit_w l dC dI cs c3 a n f sz o z (wM cs b g h) (nI k) _ _ _ (({ frames := 3, cells := 0, slots := 0, locals := 65 } : Room)) rfl rfl (by decide) (by decide) (c_X3_commit l dC dI cs a n f sz k M m1 m3 hB hk m2), ⟨({ frames := 1, cells := 0, slots := 0, locals := 23 } : Room), rfl, rfl, by decide, by decide, fun sz2 => c_X4_commit_v l dC dI cs b g h sz2 k m4 hM hk⟩, m0, by decide, fun _ => by rw [updL_0, m5], m6⟩
theorem op_right (l : Launch) (hlt : l.stackTraces = false) (dC : Nat → ClassId) (dI : Nat → Nat → Nat) (cs : ClassId × ClassId) (c3 : ClassId) (a b : Nat → Nat) (o : Nat) (r : Rel c n f g h) (hc : c + 1 < 100000) (y0 : Int32) : OpR l dC dI cs c3 a b o yL_right wsL_right yX4_right wsX4_right [.int y0] c n f g h := by
  intro z
  have hA := r.1.1
  have hB := RA_x hA
  have hM := RA_m hA
  unfold RA at hA
  by_cases hv : inB y0 8 = false
  · exact ⟨_, _, _, _, _, 1, _, fun sz => hl_right_t1 l dC dI cs c3 a n f sz o z (wM cs b g h) y0 (({ frames := 7, cells := 1, slots := 6, locals := 95 } : Room)) rfl rfl (by decide) (by decide) (t_X3_right_A l hlt dC dI cs a n f y0 hv hB), ⟨({ frames := 1, cells := 0, slots := 0, locals := 23 } : Room), rfl, rfl, by decide, by decide, fun sz2 => c_X4_right_x1 l dC dI cs b g h sz2 y0 hv hM⟩, rfl, by decide, fun q => absurd q (by decide), Rel_thr r (by decide) hc⟩
  · obtain ⟨j, hj, rfl⟩ := inB_t (b_nf hv) (by decide)
    rcases turn_eq (n := n) (f := f) r.2 (by omega) rfl rfl hj with ⟨e1, e2⟩ | ⟨e1, t, ht, e2, e3⟩
    · exact ⟨_, _, _, _, _, 2, _, fun sz => hl_right_t2 l dC dI cs c3 a n f sz o z (wM cs b g h) (nI j) (({ frames := 6, cells := 1, slots := 6, locals := 82 } : Room)) rfl rfl (by decide) (by decide) (t_X3_right_S l hlt dC dI cs a n f j e2 hB hj), ⟨({ frames := 1, cells := 0, slots := 0, locals := 23 } : Room), rfl, rfl, by decide, by decide, fun sz2 => c_X4_right_x2 l dC dI cs b g h sz2 j e1 hM hj⟩, rfl, by decide, fun q => absurd q (by decide), Rel_thr r (by decide) hc⟩
    · exact ⟨_, _, _, _, _, 0, _, fun sz => hl_right_w l dC dI cs c3 a n f sz o z (wM cs b g h) (nI j) _ _ _ (({ frames := 2, cells := 0, slots := 0, locals := 45 } : Room)) rfl rfl (by decide) (by decide) (c_X3_right l dC dI cs a n f sz j t e2 hB hj ht), ⟨({ frames := 1, cells := 0, slots := 0, locals := 23 } : Room), rfl, rfl, by decide, by decide, fun sz2 => c_X4_right_v l dC dI cs b g h sz2 j e1 hM hj (by omega)⟩, rfl, by decide, fun _ => by rw [updL_0, show g 23 = n 11 by omega], Rel_right r hj ht e3 hc⟩
theorem op_wrong (l : Launch) (hlt : l.stackTraces = false) (dC : Nat → ClassId) (dI : Nat → Nat → Nat) (cs : ClassId × ClassId) (c3 : ClassId) (a b : Nat → Nat) (o : Nat) (r : Rel c n f g h) (hc : c + 1 < 100000) (y0 : Int32) : OpR l dC dI cs c3 a b o yL_wrong wsL_wrong yX4_wrong wsX4_wrong [.int y0] c n f g h := by
  intro z
  have hA := r.1.1
  have hB := RA_x hA
  have hM := RA_m hA
  unfold RA at hA
  by_cases hv : inB y0 8 = false
  · exact ⟨_, _, _, _, _, 1, _, fun sz => hl_wrong_t1 l dC dI cs c3 a n f sz o z (wM cs b g h) y0 (({ frames := 7, cells := 1, slots := 6, locals := 95 } : Room)) rfl rfl (by decide) (by decide) (t_X3_wrong_A l hlt dC dI cs a n f y0 hv hB), ⟨({ frames := 1, cells := 0, slots := 0, locals := 23 } : Room), rfl, rfl, by decide, by decide, fun sz2 => c_X4_wrong_x1 l dC dI cs b g h sz2 y0 hv hM⟩, rfl, by decide, fun q => absurd q (by decide), Rel_thr r (by decide) hc⟩
  · obtain ⟨j, hj, rfl⟩ := inB_t (b_nf hv) (by decide)
    rcases turn_eq (n := n) (f := f) r.2 (by omega) rfl rfl hj with ⟨e1, e2⟩ | ⟨e1, t, ht, e2, e3⟩
    · exact ⟨_, _, _, _, _, 2, _, fun sz => hl_wrong_t2 l dC dI cs c3 a n f sz o z (wM cs b g h) (nI j) (({ frames := 6, cells := 1, slots := 6, locals := 82 } : Room)) rfl rfl (by decide) (by decide) (t_X3_wrong_S l hlt dC dI cs a n f j e2 hB hj), ⟨({ frames := 1, cells := 0, slots := 0, locals := 23 } : Room), rfl, rfl, by decide, by decide, fun sz2 => c_X4_wrong_x2 l dC dI cs b g h sz2 j e1 hM hj⟩, rfl, by decide, fun q => absurd q (by decide), Rel_thr r (by decide) hc⟩
    · obtain ⟨bv, K, w1, w2, w3, w4, w5, w6, w7, w8, w9, w10, w11, w12⟩ := Rel_wrong r hj ht e3 e2 hc
      have m0 := wr_0 j K g h
      exact ⟨_, _, _, _, _, 0, _, fun sz => hl_wrong_w l dC dI cs c3 a n f sz o z (wM cs b g h) (nI j) _ _ _ (({ frames := 3, cells := 0, slots := 0, locals := 65 } : Room)) rfl rfl (by decide) (by decide) (c_X3_wrong l dC dI cs a n f sz j t bv K t e2 w1 w5 w7 hB hj (by omega) w3 w8 w9), ⟨({ frames := 1, cells := 0, slots := 0, locals := 23 } : Room), rfl, rfl, by decide, by decide, fun sz2 => c_X4_wrong_v l dC dI cs b g h sz2 j bv K e1 w2 w6 w11 hM hj w4 w10⟩, m0, by decide, fun _ => updL_0, w12⟩
theorem op_port (l : Launch) (hlt : l.stackTraces = false) (dC : Nat → ClassId) (dI : Nat → Nat → Nat) (cs : ClassId × ClassId) (c3 : ClassId) (a b : Nat → Nat) (o : Nat) (r : Rel c n f g h) (hc : c + 1 < 100000) (y0 y1 : Int32) : OpR l dC dI cs c3 a b o yL_port wsL_port yX4_port wsX4_port [.int y0, .int y1] c n f g h := by
  intro z
  have hA := r.1.1
  have hB := RA_x hA
  have hM := RA_m hA
  unfold RA at hA
  have e3 : g 3 = n 2 := by omega
  by_cases hv : inB y0 (n 2) = false
  · exact ⟨_, _, _, _, _, 1, _, fun sz => hl_port_t1 l dC dI cs c3 a n f sz o z (wM cs b g h) y0 y1 (({ frames := 7, cells := 1, slots := 6, locals := 95 } : Room)) rfl rfl (by decide) (by decide) (t_X3_port_A l hlt dC dI cs a n f y0 y1 hv hB), ⟨({ frames := 1, cells := 0, slots := 0, locals := 23 } : Room), rfl, rfl, by decide, by decide, fun sz2 => c_X4_port_x1 l dC dI cs b g h sz2 y0 y1 (by rw [e3]; exact hv) hM⟩, rfl, by decide, fun q => absurd q (by decide), Rel_thr r (by decide) hc⟩
  · obtain ⟨j, hj, rfl⟩ := inB_t (b_nf hv) (by omega)
    have hat := RA_at r.1.1 hj
    have hho := x_holds_nI (n := n) hj (by omega)
    by_cases c1 : x_age n j < n 9
    · rw [if_pos c1] at hat
      have ej : x_pos n (x_age n j) = j := x_pos_age (by omega) hj
      have e16 : f 16 j = h 18 (x_age n j) := by rw [← ej]; rw [x_age_pos (by omega) (by omega)]; exact r.1.2.1.2.2.2.2.2.2 _ c1
      have eis : x_isIn n f (nI j) (nI 0) = decide (h 18 (x_age n j) = nI 0) := by rw [x_isIn, hho, cl32_nI (by omega), e16]; simp [c1]
      by_cases c2 : h 18 (x_age n j) = 0
      · have vis : x_isIn n f (nI j) (nI 0) = true := by rw [eis, nI_0]; simp [c2]
        by_cases c3' : inB y1 8 = false
        · exact ⟨_, _, _, _, _, 3, _, fun sz => hl_port_t3 l dC dI cs c3 a n f sz o z (wM cs b g h) (nI j) y1 (({ frames := 6, cells := 1, slots := 6, locals := 82 } : Room)) rfl rfl (by decide) (by decide) (t_X3_port_G l hlt dC dI cs a n f j y1 vis c3' hB hj), ⟨({ frames := 1, cells := 0, slots := 0, locals := 23 } : Room), rfl, rfl, by decide, by decide, fun sz2 => c_X4_port_x3 l dC dI cs b g h sz2 j y1 (x_age n j) hat c2 c3' hM (by omega) (by omega)⟩, rfl, by decide, fun q => absurd q (by decide), Rel_thr r (by decide) hc⟩
        · obtain ⟨k, hk, rfl⟩ := inB_t (b_nf c3') (by decide)
          have e15 : f 15 j = h 17 (x_age n j) := by rw [← ej]; rw [x_age_pos (by omega) (by omega)]; exact r.1.2.1.2.2.2.2.2.1 _ c1
          have hrel := Rel_port (kp := k) r c1 hc
          rw [ej] at hrel
          exact ⟨_, _, _, _, _, 0, _, fun sz => hl_port_w l dC dI cs c3 a n f sz o z (wM cs b g h) (nI j) (nI k) _ _ _ (({ frames := 3, cells := 0, slots := 0, locals := 64 } : Room)) rfl rfl (by decide) (by decide) (c_X3_port l dC dI cs a n f sz j k vis hB hj hk), ⟨({ frames := 1, cells := 0, slots := 0, locals := 23 } : Room), rfl, rfl, by decide, by decide, fun sz2 => c_X4_port_v l dC dI cs b g h sz2 j k (x_age n j) hat c2 hM (by omega) (by omega) hk⟩, rfl, by decide, fun _ => by rw [updL_0, e15], hrel⟩
      · have vis : x_isIn n f (nI j) (nI 0) = false := by rw [eis, nI_0]; simp [c2]
        exact ⟨_, _, _, _, _, 2, _, fun sz => hl_port_t2 l dC dI cs c3 a n f sz o z (wM cs b g h) (nI j) y1 (({ frames := 6, cells := 1, slots := 6, locals := 82 } : Room)) rfl rfl (by decide) (by decide) (t_X3_port_S l hlt dC dI cs a n f j y1 vis hB hj), ⟨({ frames := 1, cells := 0, slots := 0, locals := 23 } : Room), rfl, rfl, by decide, by decide, fun sz2 => c_X4_port_x2b l dC dI cs b g h sz2 j y1 (x_age n j) hat c2 hM (by omega) (by omega)⟩, rfl, by decide, fun q => absurd q (by decide), Rel_thr r (by decide) hc⟩
    · rw [if_neg c1] at hat
      have vis : x_isIn n f (nI j) (nI 0) = false := by rw [x_isIn, hho]; simp [c1]
      exact ⟨_, _, _, _, _, 2, _, fun sz => hl_port_t2 l dC dI cs c3 a n f sz o z (wM cs b g h) (nI j) y1 (({ frames := 6, cells := 1, slots := 6, locals := 82 } : Room)) rfl rfl (by decide) (by decide) (t_X3_port_S l hlt dC dI cs a n f j y1 vis hB hj), ⟨({ frames := 1, cells := 0, slots := 0, locals := 23 } : Room), rfl, rfl, by decide, by decide, fun sz2 => c_X4_port_x2a l dC dI cs b g h sz2 j y1 hat hM (by omega)⟩, rfl, by decide, fun q => absurd q (by decide), Rel_thr r (by decide) hc⟩
theorem op_end (l : Launch) (hlt : l.stackTraces = false) (dC : Nat → ClassId) (dI : Nat → Nat → Nat) (cs : ClassId × ClassId) (c3 : ClassId) (a b : Nat → Nat) (o : Nat) (r : Rel c n f g h) (hc : c + 1 < 100000) (y0 : Int32) : OpR l dC dI cs c3 a b o yL_end wsL_end yX4_end wsX4_end [.int y0] c n f g h := by
  intro z
  have hA := r.1.1
  have hB := RA_x hA
  have hM := RA_m hA
  unfold RA at hA
  have e3 : g 3 = n 2 := by omega
  by_cases hv : inB y0 (n 2) = false
  · exact ⟨_, _, _, _, _, 1, _, fun sz => hl_end_t1 l dC dI cs c3 a n f sz o z (wM cs b g h) y0 (({ frames := 7, cells := 1, slots := 6, locals := 95 } : Room)) rfl rfl (by decide) (by decide) (t_X3_end_A l hlt dC dI cs a n f y0 hv hB), ⟨({ frames := 1, cells := 0, slots := 0, locals := 23 } : Room), rfl, rfl, by decide, by decide, fun sz2 => c_X4_end_x1 l dC dI cs b g h sz2 y0 (by rw [e3]; exact hv) hM⟩, rfl, by decide, fun q => absurd q (by decide), Rel_thr r (by decide) hc⟩
  · obtain ⟨j, hj, rfl⟩ := inB_t (b_nf hv) (by omega)
    have hat := RA_at r.1.1 hj
    have hho := x_holds_nI (n := n) hj (by omega)
    by_cases c1 : x_age n j < n 9
    · rw [if_pos c1] at hat
      have ej : x_pos n (x_age n j) = j := x_pos_age (by omega) hj
      have e16 : f 16 j = h 18 (x_age n j) := by rw [← ej]; rw [x_age_pos (by omega) (by omega)]; exact r.1.2.1.2.2.2.2.2.2 _ c1
      have eis : x_isIn n f (nI j) (nI 1) = decide (h 18 (x_age n j) = nI 1) := by rw [x_isIn, hho, cl32_nI (by omega), e16]; simp [c1]
      by_cases c2 : h 18 (x_age n j) = nI 1
      · have vis : x_isIn n f (nI j) (nI 1) = true := by rw [eis]; simp [c2]
        obtain ⟨s1, s2⟩ := Rel_end r c1 c2 hc
        rw [ej] at s1 s2
        rcases Rel0_gv r.1 c1 with gv | ⟨q, hq, gv⟩
        · exact ⟨_, _, _, _, _, 0, _, fun sz => hl_end_w l dC dI cs c3 a n f sz o z (wM cs b g h) (nI j) _ _ _ (({ frames := 5, cells := 0, slots := 0, locals := 107 } : Room)) rfl rfl (by decide) (by decide) (c_X3_end l dC dI cs a n f sz j vis hB hj), ⟨({ frames := 3, cells := 0, slots := 0, locals := 64 } : Room), rfl, rfl, by decide, by decide, fun sz2 => c_X4_end_0 l dC dI cs b g h sz2 j (x_age n j) hat c2 (Rel0_okr r.1) gv hM (by omega) (by omega)⟩, rfl, by decide, fun _ => by rw [updL_0, s2], s1⟩
        · exact ⟨_, _, _, _, _, 0, _, fun sz => hl_end_w l dC dI cs c3 a n f sz o z (wM cs b g h) (nI j) _ _ _ (({ frames := 5, cells := 0, slots := 0, locals := 107 } : Room)) rfl rfl (by decide) (by decide) (c_X3_end l dC dI cs a n f sz j vis hB hj), ⟨({ frames := 3, cells := 0, slots := 0, locals := 64 } : Room), rfl, rfl, by decide, by decide, fun sz2 => c_X4_end_g l dC dI cs b g h sz2 j (x_age n j) q hat c2 (Rel0_okr r.1) gv hM (by omega) (by omega) (by omega)⟩, rfl, by decide, fun _ => by rw [updL_0, s2], s1⟩
      · have vis : x_isIn n f (nI j) (nI 1) = false := by rw [eis]; simp [c2]
        exact ⟨_, _, _, _, _, 2, _, fun sz => hl_end_t2 l dC dI cs c3 a n f sz o z (wM cs b g h) (nI j) (({ frames := 6, cells := 1, slots := 6, locals := 82 } : Room)) rfl rfl (by decide) (by decide) (t_X3_end_S l hlt dC dI cs a n f j vis hB hj), ⟨({ frames := 1, cells := 0, slots := 0, locals := 23 } : Room), rfl, rfl, by decide, by decide, fun sz2 => c_X4_end_x2b l dC dI cs b g h sz2 j (x_age n j) hat c2 hM (by omega) (by omega)⟩, rfl, by decide, fun q => absurd q (by decide), Rel_thr r (by decide) hc⟩
    · rw [if_neg c1] at hat
      have vis : x_isIn n f (nI j) (nI 1) = false := by rw [x_isIn, hho]; simp [c1]
      exact ⟨_, _, _, _, _, 2, _, fun sz => hl_end_t2 l dC dI cs c3 a n f sz o z (wM cs b g h) (nI j) (({ frames := 6, cells := 1, slots := 6, locals := 82 } : Room)) rfl rfl (by decide) (by decide) (t_X3_end_S l hlt dC dI cs a n f j vis hB hj), ⟨({ frames := 1, cells := 0, slots := 0, locals := 23 } : Room), rfl, rfl, by decide, by decide, fun sz2 => c_X4_end_x2a l dC dI cs b g h sz2 j hat hM (by omega)⟩, rfl, by decide, fun q => absurd q (by decide), Rel_thr r (by decide) hc⟩
theorem op_row (l : Launch) (hlt : l.stackTraces = false) (dC : Nat → ClassId) (dI : Nat → Nat → Nat) (cs : ClassId × ClassId) (c3 : ClassId) (a b : Nat → Nat) (o : Nat) (r : Rel c n f g h) (hc : c + 1 < 100000) (y0 y1 : Int32) : OpR l dC dI cs c3 a b o yL_row wsL_row yX4_row wsX4_row [.int y0, .int y1] c n f g h := by
  intro z
  have hA := r.1.1
  have hB := RA_x hA
  have hM := RA_m hA
  unfold RA at hA
  have e3 : g 3 = n 2 := by omega
  by_cases hv : inB y0 (n 2) = false
  · exact ⟨_, _, _, _, _, 1, _, fun sz => hl_row_t1 l dC dI cs c3 a n f sz o z (wM cs b g h) y0 y1 (({ frames := 7, cells := 1, slots := 6, locals := 95 } : Room)) rfl rfl (by decide) (by decide) (t_X3_row_A l hlt dC dI cs a n f y0 y1 hv hB), ⟨({ frames := 1, cells := 0, slots := 0, locals := 23 } : Room), rfl, rfl, by decide, by decide, fun sz2 => c_X4_row_x1 l dC dI cs b g h sz2 y0 y1 (by rw [e3]; exact hv) hM⟩, rfl, by decide, fun q => absurd q (by decide), Rel_thr r (by decide) hc⟩
  · obtain ⟨j, hj, rfl⟩ := inB_t (b_nf hv) (by omega)
    have hat := RA_at r.1.1 hj
    have hho := x_holds_nI (n := n) hj (by omega)
    by_cases c1 : x_age n j < n 9
    · rw [if_pos c1] at hat
      have ej : x_pos n (x_age n j) = j := x_pos_age (by omega) hj
      have hho' : x_holds n (nI j) = true := by rw [hho]; simp [c1]
      by_cases c3' : inB y1 7 = false
      · have q1 : y1.toInt < 0 ∨ 6 < y1.toInt := by
          rcases inB_f c3' with q | q
          · rw [Int32.lt_iff_toInt_lt] at q
            have : (0 : Int32).toInt = 0 := by decide
            omega
          · rw [Int32.lt_iff_toInt_lt] at q
            have : (nI 7).toInt = 7 := by decide
            omega
        have q2 : y1 < 0 ∨ ¬ y1 ≤ nI 6 := by
          rw [Int32.lt_iff_toInt_lt, Int32.le_iff_toInt_le]
          have e0 : (0 : Int32).toInt = 0 := by decide
          have e6 : (nI 6).toInt = 6 := by decide
          omega
        exact ⟨_, _, _, _, _, 3, _, fun sz => hl_row_t3 l dC dI cs c3 a n f sz o z (wM cs b g h) (nI j) y1 (({ frames := 6, cells := 1, slots := 6, locals := 82 } : Room)) rfl rfl (by decide) (by decide) (t_X3_row_G l hlt dC dI cs a n f j y1 hho' q1 hB hj), ⟨({ frames := 1, cells := 0, slots := 0, locals := 23 } : Room), rfl, rfl, by decide, by decide, fun sz2 => c_X4_row_x3 l dC dI cs b g h sz2 j y1 (x_age n j) hat q2 hM (by omega) (by omega)⟩, rfl, by decide, fun q => absurd q (by decide), Rel_thr r (by decide) hc⟩
      · obtain ⟨w, hw, rfl⟩ := inB_t (b_nf c3') (by decide)
        have ew : f (10 + w) j = h (12 + w) (x_age n j) := by
          obtain ⟨b0, b1, b2, b3, b4, b5, b6⟩ := r.1.2.1
          have key : ∀ u v : Nat → Int32, rb (n 9) (x_pos n) u v → u j = v (x_age n j) := fun u v q => by rw [← q _ c1, ej]
          match w, hw with
          | 0, _ => exact key _ _ b0
          | 1, _ => exact key _ _ b1
          | 2, _ => exact key _ _ b2
          | 3, _ => exact key _ _ b3
          | 4, _ => exact key _ _ b4
          | 5, _ => exact key _ _ b5
          | 6, _ => exact key _ _ b6
          | _ + 7, q => omega
        exact ⟨_, _, _, _, _, 0, _, fun sz => hl_row_r l dC dI cs c3 a n f sz o z (wM cs b g h) (nI j) (nI w) _ (({ frames := 2, cells := 0, slots := 0, locals := 42 } : Room)) rfl rfl (by decide) (by decide) (c_X3_row l dC dI cs a n f j w hB hj hw hho'), ⟨({ frames := 1, cells := 0, slots := 0, locals := 23 } : Room), rfl, rfl, by decide, by decide, fun sz2 => c_X4_row_v l dC dI cs b g h sz2 j w (x_age n j) hat hM (by omega) (by omega) hw⟩, rfl, by decide, fun _ => by rw [updL_0, ew], Rel_thr r (by decide) hc⟩
    · rw [if_neg c1] at hat
      have vis : x_holds n (nI j) = false := by rw [hho]; simp [c1]
      exact ⟨_, _, _, _, _, 2, _, fun sz => hl_row_t2 l dC dI cs c3 a n f sz o z (wM cs b g h) (nI j) y1 (({ frames := 6, cells := 1, slots := 6, locals := 82 } : Room)) rfl rfl (by decide) (by decide) (t_X3_row_S l hlt dC dI cs a n f j y1 vis hB hj), ⟨({ frames := 1, cells := 0, slots := 0, locals := 23 } : Room), rfl, rfl, by decide, by decide, fun sz2 => c_X4_row_x2 l dC dI cs b g h sz2 j y1 hat hM (by omega)⟩, rfl, by decide, fun q => absurd q (by decide), Rel_thr r (by decide) hc⟩
end
