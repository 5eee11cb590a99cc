/-! my own: the relation of the class and the reference -/
def RA (c : Nat) (n g : Nat → Nat) : Prop := (1 ≤ n 0 ∧ n 0 ≤ 32 ∧ n 0 < n 1 ∧ n 1 ≤ 96 ∧ 1 ≤ n 2 ∧ n 2 ≤ 64) ∧ (g 1 = n 0 ∧ g 2 = n 1 ∧ g 3 = n 2) ∧ (n 6 < n 1 ∧ n 7 ≤ n 1 ∧ n 8 < n 2 ∧ n 9 ≤ n 2 ∧ n 11 ≤ 8) ∧ (g 9 = n 7 ∧ g 11 = n 8 ∧ g 10 = n 9 ∧ g 25 = n 10 ∧ g 23 = n 11 ∧ g 26 = n 3 ∧ g 27 = n 4 ∧ g 28 = n 5) ∧ n 3 + n 9 + n 10 ≤ c ∧ n 4 ≤ c ∧ n 5 ≤ c ∧ g 22 ≤ c ∧ g 0 < 1000 ∧ c < 100000
def rb (k : Nat) (pos : Nat → Nat) (u v : Nat → Int32) : Prop := ∀ i, i < k → u (pos i) = v i
def ev (k : Nat) (u v : Nat → Int32) : Prop := ∀ i, i < k → u i = v i
def okT (T : Nat) (x : Int32) : Prop := x = -1 ∨ ∃ q, q < T ∧ x = nI q
def RB (n : Nat → Nat) (f h : Nat → Nat → Int32) : Prop := rb (n 9) (x_pos n) (f 10) (h 12) ∧ rb (n 9) (x_pos n) (f 11) (h 13) ∧ rb (n 9) (x_pos n) (f 12) (h 14) ∧ rb (n 9) (x_pos n) (f 13) (h 15) ∧ rb (n 9) (x_pos n) (f 14) (h 16) ∧ rb (n 9) (x_pos n) (f 15) (h 17) ∧ rb (n 9) (x_pos n) (f 16) (h 18)
def RD (n : Nat → Nat) (f h : Nat → Nat → Int32) : Prop := ev (n 0) (f 4) (h 4) ∧ ev (n 0) (f 5) (h 5) ∧ ev 8 (f 6) (h 24) ∧ ev (n 1) (f 7) (h 6) ∧ ev (n 1) (f 8) (h 7)
def RV (n : Nat → Nat) (h : Nat → Nat → Int32) : Prop := ∀ i, i < n 9 → okT (n 1) (h 12 i) ∧ okT (n 1) (h 13 i)
def RN (n : Nat → Nat) (h : Nat → Nat → Int32) : Prop := iR (n 0) (n 1) (n 9) (h 4) (h 5) (h 14) (h 15) (h 16) ∧ iS (n 1) (n 7) (h 6) (h 8) (sc (h 5) (h 16) (h 14) (n 0) (n 9))
def Rel0 (c : Nat) (n : Nat → Nat) (f : Nat → Nat → Int32) (g : Nat → Nat) (h : Nat → Nat → Int32) : Prop := RA c n g ∧ RB n f h ∧ rb (n 7) (x_slot n) (f 9) (h 8) ∧ RD n f h ∧ RV n h ∧ RN n h
def RM (d e k B : Nat) (be tu mkd bh ah : Nat → Int32) : Prop := ∃ mk bf ag : Nat → Nat,
  (∀ t, t < k → mk t < 8 ∧ tu t = nI (mk t) ∧ ¬ mkd (mk t) = 0 ∧ be (mk t) = nI (bf t) ∧ bh (mk t) = nI (bf t) ∧ ah (mk t) = nI (ag t) ∧ d ≤ bf t ∧ bf t ≤ e ∧ ag t < B) ∧
  (∀ s t, s < t → t < k → mk s ≠ mk t ∧ bf s ≤ bf t ∧ ag s < ag t) ∧
  (∀ j, j < 8 → ¬ mkd j = 0 → ∃ t, t < k ∧ mk t = j)
def Rel (c : Nat) (n : Nat → Nat) (f : Nat → Nat → Int32) (g : Nat → Nat) (h : Nat → Nat → Int32) : Prop := Rel0 c n f g h ∧ RM (n 10) (n 10 + n 9) (n 11) (g 22) (f 17) (f 18) (h 19) (h 20) (h 21)
section
variable {c : Nat} {n g : Nat → Nat} {f h : Nat → Nat → Int32}
theorem RA_x (r : RA c n g) : x_bd n := by unfold RA at r; unfold x_bd; omega
theorem RA_m (r : RA c n g) : m_bd g := by unfold RA at r; unfold m_bd; omega
theorem rb_app {k : Nat} {pos : Nat → Nat} {u v : Nat → Int32} {x : Int32} (r : rb k pos u v) (hp : ∀ i, i < k → pos i ≠ pos k) : rb (k + 1) pos (upd u (pos k) x) (upd v k x) := fun i hi => by
  by_cases c : i = k
  · subst c; rw [upd_s, upd_s]
  · rw [upd_n (hp i (by omega)), upd_n c]; exact r i (by omega)
theorem rb_le {k k' : Nat} {pos : Nat → Nat} {u v : Nat → Int32} (r : rb k pos u v) (hk : k' ≤ k) : rb k' pos u v := fun i hi => r i (by omega)
theorem rb_upd {k j : Nat} {pos : Nat → Nat} {u v : Nat → Int32} {x : Int32} (r : rb k pos u v) (hp : ∀ i, i < k → i ≠ j → pos i ≠ pos j) : rb k pos (upd u (pos j) x) (upd v j x) := fun i hi => by
  by_cases c : i = j
  · subst c; rw [upd_s, upd_s]
  · rw [upd_n (hp i hi c), upd_n c]; exact r i hi
theorem rb_sh {k : Nat} {pos pos' : Nat → Nat} {u v v' : Nat → Int32} (r : rb (k + 1) pos u v) (hp : ∀ i, i < k → pos' i = pos (i + 1)) (hv : ∀ i, i < k → v' i = v (i + 1)) : rb k pos' u v' := fun i hi => by rw [hp i hi, hv i hi]; exact r (i + 1) (by omega)
theorem ev_upd {k j : Nat} {u v : Nat → Int32} {x : Int32} (r : ev k u v) : ev k (upd u j x) (upd v j x) := fun i hi => by
  by_cases c : i = j
  · subst c; rw [upd_s, upd_s]
  · rw [upd_n c, upd_n c]; exact r i hi
theorem pos_inj {n : Nat → Nat} (h8 : n 8 < n 2) {i j : Nat} (hi : i < n 2) (hj : j < n 2) (hn : i ≠ j) : x_pos n i ≠ x_pos n j := by
  unfold x_pos; split <;> split <;> omega
theorem slot_inj {n : Nat → Nat} (h8 : n 6 < n 1) {i j : Nat} (hi : i < n 1) (hj : j < n 1) (hn : i ≠ j) : x_slot n i ≠ x_slot n j := by
  unfold x_slot; split <;> split <;> omega
theorem mod_pos {a b : Nat} (h : a < 2 * b) : a % b = if a < b then a else a - b := by
  split
  · exact Nat.mod_eq_of_lt ‹_›
  · rw [Nat.mod_eq_sub_mod (by omega), Nat.mod_eq_of_lt (by omega)]
theorem RA_pos (r : RA c n g) {i : Nat} (hi : i ≤ n 2) : m_pos g i = x_pos n i := by
  unfold RA at r
  unfold m_pos x_pos
  rw [mod_pos (by omega)]
  split <;> split <;> omega
theorem RA_atv (r : RA c n g) {j : Nat} (hj : j < n 2) : m_atv g j = x_age n j := by
  unfold RA at r
  unfold m_atv x_age
  rw [mod_pos (by omega)]
  split <;> split <;> omega
theorem RA_at (r : RA c n g) {j : Nat} (hj : j < n 2) : m_at g j = if x_age n j < n 9 then nI (x_age n j) else -1 := by
  unfold m_at
  rw [RA_atv r hj]
  have : g 10 = n 9 := by unfold RA at r; omega
  rw [this]
theorem okT_m {T : Nat} (hT : T ≤ 96) {x : Int32} (h : okT T x) : m_ok x := by
  rcases h with h | ⟨q, hq, e⟩
  · exact Or.inl h
  · exact Or.inr ⟨q, by omega, e⟩
theorem Rel0_okr (r : Rel0 c n f g h) : m_okr g h := fun i hi => by
  obtain ⟨rA, _, _, _, rV, _⟩ := r
  have e : g 10 = n 9 ∧ n 1 ≤ 96 := by unfold RA at rA; omega
  exact ⟨okT_m e.2 (rV i (by omega)).1, okT_m e.2 (rV i (by omega)).2⟩
theorem rdy_eq {T : Nat} (hT : T ≤ 96) (n1 : n 1 = T) (e : ev T (f 8) (h 7)) {x : Int32} (hx : okT T x) : x_rdy n f x = m_rdy h x := by
  rcases hx with rfl | ⟨q, hq, rfl⟩
  · simp [x_rdy, m_rdy, inB_m1]
  · have h0 : ¬ nI q < 0 := nI_pos (by omega)
    simp only [x_rdy, m_rdy, n1, inB_nI (show q < 2 ^ 31 by omega) (show T < 2 ^ 31 by omega), cl32_nI (show q < 2 ^ 31 by omega), e q hq, h0, hq, decide_true, decide_false, Bool.not_true, Bool.false_or]
theorem able_eq (r : Rel0 c n f g h) {i : Nat} (hi : i < n 9) : x_able n f (x_pos n i) = m_may h i := by
  obtain ⟨rA, ⟨b0, b1, _, _, _, _, b6⟩, _, ⟨_, _, _, _, d4⟩, rV, _⟩ := r
  have hA := rA
  unfold RA at hA
  have hp : x_pos n i < n 2 := x_pos_lt (by omega) (by omega)
  have ha : x_age n (x_pos n i) = i := x_age_pos (by omega) (by omega)
  unfold x_able m_may x_isIn
  rw [x_holds_nI hp (by omega), ha, cl32_nI (by omega), b0 i hi, b1 i hi, b6 i hi, rdy_eq (by omega) rfl d4 (rV i hi).1, rdy_eq (by omega) rfl d4 (rV i hi).2]
  simp [hi, nI_0]
theorem cnt_eq (r : Rel0 c n f g h) : ∀ k, k ≤ n 9 → x_cnt n f k = m_cnt h k
  | 0, _ => rfl
  | k + 1, hk => by rw [x_cnt, m_cnt, cnt_eq r k (by omega), able_eq r (by omega)]
/-! steps that leave the rows -/
theorem Rel0_up {c' : Nat} (r : Rel0 c n f g h) (hc : c ≤ c') (h2 : c' < 100000) : Rel0 c' n f g h := by
  obtain ⟨rA, rest⟩ := r
  exact ⟨by unfold RA at rA ⊢; omega, rest⟩
theorem Rel_thr {k : Nat} (r : Rel c n f g h) (hk : k < 4) (hc : c + 1 < 100000) : Rel (c + 1) n f (un g 0 k) h := by
  obtain ⟨⟨rA, rest⟩, rM⟩ := r
  exact ⟨⟨by unfold RA at rA ⊢; simp only [un]; simp; omega, rest⟩, rM⟩
theorem Rel_full (r : Rel c n f g h) (hc : c + 1 < 100000) : Rel (c + 1) (un n 4 (n 4 + 1)) f (un (un g 0 0) 27 (g 27 + 1)) h := by
  obtain ⟨⟨rA, rest⟩, rM⟩ := r
  exact ⟨⟨by unfold RA at rA ⊢; simp only [un]; simp; omega, rest⟩, rM⟩
theorem Rel_want (r : Rel c n f g h) (hc : c + 1 < 100000) : Rel (c + 1) (un n 5 (n 5 + 1)) f (un (un g 0 0) 28 (g 28 + 1)) h := by
  obtain ⟨⟨rA, rest⟩, rM⟩ := r
  exact ⟨⟨by unfold RA at rA ⊢; simp only [un]; simp; omega, rest⟩, rM⟩
theorem Rel_port {i kp : Nat} (r : Rel c n f g h) (hi : i < n 9) (hc : c + 1 < 100000) : Rel (c + 1) n (uf f 15 (upd (f 15) (x_pos n i) (nI kp))) (un g 0 0) (uf h 17 (upd (h 17) i (nI kp))) := by
  obtain ⟨⟨rA, ⟨b0, b1, b2, b3, b4, b5, b6⟩, rest⟩, rM⟩ := r
  have hA := rA
  unfold RA at hA
  exact ⟨⟨by unfold RA at rA ⊢; simp only [un]; simp; omega, ⟨b0, b1, b2, b3, b4, rb_upd b5 (fun j hj ne => pos_inj (by omega) (by omega) (by omega) ne), b6⟩, rest⟩, rM⟩
end
