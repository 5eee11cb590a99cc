def wX (cs : ClassId × ClassId) (a n : Nat → Nat) (f : Nat → Nat → Int32) : va_W := [(a 0, .inr (4, [.ref (a 1), .ref (a 2), .ref (a 3), .ref (a 4), .ref (a 5), .ref (a 6), .int (nI (n 3)), .int (nI (n 4)), .int (nI (n 5))])), (a 1, .inr (2, [.ref (a 7), .ref (a 8), .ref (a 9), .int (nI (n 6)), .int (nI (n 7))])), (a 2, .inr (3, [.ref (a 10), .ref (a 11), .ref (a 12), .ref (a 13), .ref (a 14), .ref (a 15), .ref (a 16), .int (nI (n 8)), .int (nI (n 9)), .int (nI (n 10))])), (a 3, .inr (1, [.ref (a 17), .ref (a 18), .int (nI (n 11))])), (a 4, .inl (cs.1, n 0, .inl (f 4))), (a 5, .inl (cs.1, n 0, .inl (f 5))), (a 6, .inl (cs.1, 8, .inl (f 6))), (a 7, .inl (cs.1, n 1, .inl (f 7))), (a 8, .inl (cs.2, n 1, .inl (f 8))), (a 9, .inl (cs.1, n 1, .inl (f 9))), (a 10, .inl (cs.1, n 2, .inl (f 10))), (a 11, .inl (cs.1, n 2, .inl (f 11))), (a 12, .inl (cs.1, n 2, .inl (f 12))), (a 13, .inl (cs.1, n 2, .inl (f 13))), (a 14, .inl (cs.1, n 2, .inl (f 14))), (a 15, .inl (cs.1, n 2, .inl (f 15))), (a 16, .inl (cs.1, n 2, .inl (f 16))), (a 17, .inl (cs.1, 8, .inl (f 17))), (a 18, .inl (cs.1, 8, .inl (f 18)))]
def wM (cs : ClassId × ClassId) (b g : Nat → Nat) (h : Nat → Nat → Int32) : va_W := [(b 0, .inr (5, [.int (nI (g 0)), .int (nI (g 1)), .int (nI (g 2)), .int (nI (g 3)), .ref (b 4), .ref (b 5), .ref (b 6), .ref (b 7), .ref (b 8), .int (nI (g 9)), .int (nI (g 10)), .int (nI (g 11)), .ref (b 12), .ref (b 13), .ref (b 14), .ref (b 15), .ref (b 16), .ref (b 17), .ref (b 18), .ref (b 19), .ref (b 20), .ref (b 21), .int (nI (g 22)), .int (nI (g 23)), .ref (b 24), .int (nI (g 25)), .int (nI (g 26)), .int (nI (g 27)), .int (nI (g 28))])), (b 4, .inl (cs.1, 32, .inl (h 4))), (b 5, .inl (cs.1, 32, .inl (h 5))), (b 6, .inl (cs.1, 96, .inl (h 6))), (b 7, .inl (cs.2, 96, .inl (h 7))), (b 8, .inl (cs.1, 96, .inl (h 8))), (b 12, .inl (cs.1, 64, .inl (h 12))), (b 13, .inl (cs.1, 64, .inl (h 13))), (b 14, .inl (cs.1, 64, .inl (h 14))), (b 15, .inl (cs.1, 64, .inl (h 15))), (b 16, .inl (cs.1, 64, .inl (h 16))), (b 17, .inl (cs.1, 64, .inl (h 17))), (b 18, .inl (cs.1, 64, .inl (h 18))), (b 19, .inl (cs.2, 8, .inl (h 19))), (b 20, .inl (cs.1, 8, .inl (h 20))), (b 21, .inl (cs.1, 8, .inl (h 21))), (b 24, .inl (cs.1, 8, .inl (h 24)))]
/-! my own: what the class's readers say, over its numbers n and its arrays f -/
def x_bd (n : Nat → Nat) : Prop := 1 ≤ n 0 ∧ n 0 ≤ 32 ∧ n 0 < n 1 ∧ n 1 ≤ 96 ∧ 1 ≤ n 2 ∧ n 2 ≤ 64 ∧ n 3 < 1000000 ∧ n 4 < 1000000 ∧ n 5 < 1000000 ∧ n 6 < n 1 ∧ n 7 ≤ n 1 ∧ n 8 < n 2 ∧ n 9 ≤ n 2 ∧ n 10 < 1000000 ∧ n 11 ≤ 8
def x_age (n : Nat → Nat) (p : Nat) : Nat := if n 8 ≤ p then p - n 8 else p + n 2 - n 8
def x_pos (n : Nat → Nat) (i : Nat) : Nat := if n 8 + i < n 2 then n 8 + i else n 8 + i - n 2
def x_slot (n : Nat → Nat) (k : Nat) : Nat := if n 6 + k < n 1 then n 6 + k else n 6 + k - n 1
def cl32 (x : Int32) : Nat := x.toNatClampNeg
theorem cl32_nI {j : Nat} (h : j < 2 ^ 31) : cl32 (nI j) = j := nI_clamp h
def x_holds (n : Nat → Nat) (x : Int32) : Bool := inB x (n 2) && decide (x_age n (cl32 x) < n 9)
def x_isIn (n : Nat → Nat) (f : Nat → Nat → Int32) (x w : Int32) : Bool := x_holds n x && decide (f 16 (cl32 x) = w)
def x_old (n : Nat → Nat) : Int32 := if n 9 = 0 then -1 else nI (n 8)
def x_last (n : Nat → Nat) : Int32 := if n 9 = 0 then -1 else nI (x_pos n (n 9 - 1))
def x_at (k : Nat) (n : Nat → Nat) (f : Nat → Nat → Int32) (x : Int32) : Int32 := if inB x (n 2) = true then f k (cl32 x) else -1
def x_cur (n : Nat → Nat) (f : Nat → Nat → Int32) (x : Int32) : Int32 := if inB x (n 0) = true then f 4 (cl32 x) else -1
def x_sh (n : Nat → Nat) (f : Nat → Nat → Int32) (x : Int32) : Int32 := if inB x (n 1) = true then f 7 (cl32 x) else 0
def x_fa (n : Nat → Nat) (f : Nat → Nat → Int32) (x : Int32) : Int32 := if inB x (n 7) = true then f 9 (x_slot n (cl32 x)) else -1
def x_rdy (n : Nat → Nat) (f : Nat → Nat → Int32) (x : Int32) : Bool := !inB x (n 1) || !decide (f 8 (cl32 x) = 0)
def x_able (n : Nat → Nat) (f : Nat → Nat → Int32) (j : Nat) : Bool := x_isIn n f (nI j) (nI 0) && (x_rdy n f (f 10 j) && x_rdy n f (f 11 j))
def x_find (n : Nat → Nat) (f : Nat → Nat → Int32) (p : Int32) : Nat → Nat → Int32
  | 0, _ => -1
  | k + 1, i => if decide (f 15 (x_pos n i) = p) && x_able n f (x_pos n i) then nI (x_pos n i) else x_find n f p k (i + 1)
def x_cnt (n : Nat → Nat) (f : Nat → Nat → Int32) : Nat → Nat
  | 0 => 0
  | k + 1 => x_cnt n f k + (if x_able n f (x_pos n k) then 1 else 0)
def x_tf (f : Nat → Nat → Int32) (x : Int32) : Nat → Nat → Int32
  | 0, _ => -1
  | k + 1, t => if f 18 t = x then nI t else x_tf f x k (t + 1)
def x_turn (n : Nat → Nat) (f : Nat → Nat → Int32) (x : Int32) : Int32 := x_tf f x (n 11) 0
def x_bef (f : Nat → Nat → Int32) (x : Int32) : Int32 := if inB x 8 = true then f 17 (cl32 x) else 0
def x_om (n : Nat → Nat) (f : Nat → Nat → Int32) : Int32 := if n 11 = 0 then -1 else f 18 0
def x_rb (n : Nat → Nat) (f : Nat → Nat → Int32) : Int32 := if x_om n f = -1 then nI (n 9) else x_bef f (x_om n f) - nI (n 10)
theorem x_pos_lt {n : Nat → Nat} {i : Nat} (h : n 8 < n 2) (h2 : i ≤ n 2) : x_pos n i < n 2 := by unfold x_pos; split <;> omega
theorem x_age_lt {n : Nat → Nat} {p : Nat} (h : n 8 < n 2) (h2 : p < n 2) : x_age n p < n 2 := by unfold x_age; split <;> omega
theorem x_age_pos {n : Nat → Nat} {i : Nat} (h : n 8 < n 2) (h2 : i < n 2) : x_age n (x_pos n i) = i := by unfold x_age x_pos; split <;> split <;> omega
theorem x_pos_age {n : Nat → Nat} {p : Nat} (h : n 8 < n 2) (h2 : p < n 2) : x_pos n (x_age n p) = p := by unfold x_age x_pos; split <;> split <;> omega
theorem x_slot_lt {n : Nat → Nat} {k : Nat} (h : n 6 < n 1) (h2 : k ≤ n 1) : x_slot n k < n 1 := by unfold x_slot; split <;> omega
theorem x_holds_t {n : Nat → Nat} {x : Int32} (h : x_holds n x = true) (hn : n 2 < 2 ^ 31) : ∃ j : Nat, j < n 2 ∧ x = nI j := by
  simp only [x_holds, Bool.and_eq_true] at h
  exact inB_t h.1 hn
theorem x_holds_nI {n : Nat → Nat} {j : Nat} (hj : j < n 2) (hn : n 2 < 2 ^ 31) : x_holds n (nI j) = decide (x_age n j < n 9) := by
  rw [x_holds, inB_nI (by omega) hn, cl32_nI (by omega)]
  simp [hj]
theorem x_at_nI {k : Nat} {n : Nat → Nat} {f : Nat → Nat → Int32} {j : Nat} (hj : j < n 2) (hn : n 2 < 2 ^ 31) : x_at k n f (nI j) = f k j := by
  rw [x_at, inB_nI (by omega) hn, cl32_nI (by omega)]
  simp [hj]
/-! what its writers make of them -/
def x_gN (n : Nat → Nat) (f : Nat → Nat → Int32) (q : Nat) : Nat → Nat := if f 7 q - nI 1 = 0 then un n 7 (n 7 + 1) else n
def x_gF (n : Nat → Nat) (f : Nat → Nat → Int32) (q : Nat) : Nat → Nat → Int32 := if f 7 q - nI 1 = 0 then uf (uf f 7 (upd (f 7) q (f 7 q - nI 1))) 9 (upd (f 9) (x_slot n (n 7)) (nI q)) else uf f 7 (upd (f 7) q (f 7 q - nI 1))
def x_mrF (n : Nat → Nat) (f : Nat → Nat → Int32) (x : Int32) : Nat → Nat → Int32 := if inB x (n 1) = true then uf f 8 (upd (f 8) (cl32 x) (nI 1)) else f
def x_lw (n : Nat → Nat) (f : Nat → Nat → Int32) : Nat → Nat → Int32
  | 0, _ => -1
  | k + 1, t => if x_turn n f (nI t) = -1 then nI t else x_lw n f k (t + 1)
def x_lo (n : Nat → Nat) (f : Nat → Nat → Int32) : Int32 := if n 11 < 8 then x_lw n f 8 0 else -1
def x_loN (n : Nat → Nat) (f : Nat → Nat → Int32) : Nat → Nat := if x_lo n f = -1 then n else un n 11 (n 11 + 1)
def x_loF (n : Nat → Nat) (f : Nat → Nat → Int32) (r : Nat) : Nat → Nat → Int32 := if x_lo n f = -1 then f else uf (uf f 17 (upd (f 17) (cl32 (x_lo n f)) (nI r))) 18 (upd (f 18) (n 11) (x_lo n f))
def x_sl (u : Nat → Int32) (t k : Nat) : Nat → Int32 := fun j => if t ≤ j ∧ j < k then u (j + 1) else u j
theorem x_sl_0 (u : Nat → Int32) (t : Nat) : x_sl u t t = u := by
  funext j
  unfold x_sl
  rw [if_neg (by omega)]
theorem x_sl_s (u : Nat → Int32) {t k : Nat} (h : t ≤ k) : upd (x_sl u t k) k (x_sl u t k (k + 1)) = x_sl u t (k + 1) := by
  funext j
  unfold upd x_sl
  by_cases hj : j = k
  · subst hj
    rw [if_pos rfl, if_neg (by omega), if_pos (by omega)]
  · rw [if_neg hj]
    by_cases h1 : t ≤ j ∧ j < k
    · rw [if_pos h1, if_pos (by omega)]
    · rw [if_neg h1, if_neg (by omega)]
theorem x_tf_lt {f : Nat → Nat → Int32} {x : Int32} : ∀ (k t : Nat), t + k < 2 ^ 31 → x_tf f x k t = -1 ∨ ∃ j, t ≤ j ∧ j < t + k ∧ x_tf f x k t = nI j ∧ f 18 j = x ∧ ∀ i, t ≤ i → i < j → f 18 i ≠ x
  | 0, t, _ => Or.inl rfl
  | k + 1, t, h => by
    by_cases hx : f 18 t = x
    · exact Or.inr ⟨t, Nat.le_refl _, by omega, by simp [x_tf, hx], hx, fun i h1 h2 => absurd h2 (by omega)⟩
    · rcases x_tf_lt (f := f) (x := x) k (t + 1) (by omega) with h1 | ⟨j, h1, h2, h3, h4, h5⟩
      · exact Or.inl (by simp [x_tf, hx, h1])
      · refine Or.inr ⟨j, by omega, by omega, by simp [x_tf, hx, h3], h4, fun i hi hj => ?_⟩
        by_cases hi' : i = t
        · subst hi'; exact hx
        · exact h5 i (by omega) hj
/-! rows that come and go -/
def x_app (n : Nat → Nat) (f : Nat → Nat → Int32) (ra rb rg rk rt rs : Int32) : Nat → Nat → Int32 :=
  uf (uf (uf (uf (uf (uf (uf f 10 (upd (f 10) (x_pos n (n 9)) ra)) 11 (upd (f 11) (x_pos n (n 9)) rb)) 12 (upd (f 12) (x_pos n (n 9)) rg)) 13 (upd (f 13) (x_pos n (n 9)) rk)) 14 (upd (f 14) (x_pos n (n 9)) rt)) 15 (upd (f 15) (x_pos n (n 9)) (nI 0))) 16 (upd (f 16) (x_pos n (n 9)) rs)
def x_apF (n : Nat → Nat) (f : Nat → Nat → Int32) (ra rb rg rt rs : Int32) : Nat → Nat → Int32 :=
  if inB rt (n 0) = true then uf (x_app n f ra rb rg (x_cur n f rt) rt rs) 4 (upd (f 4) (cl32 rt) rg) else x_app n f ra rb rg (x_cur n f rt) rt rs
def x_dN (n : Nat → Nat) : Nat → Nat := un (un (un n 8 (x_pos n 1)) 9 (n 9 - 1)) 10 (n 10 + 1)
def x_f5 (n : Nat → Nat) (f : Nat → Nat → Int32) : Nat → Nat → Int32 := uf f 5 (upd (f 5) (cl32 (f 14 (n 8))) (f 12 (n 8)))
def x_fiN (n : Nat → Nat) (f : Nat → Nat → Int32) : Nat → Nat := if f 14 (n 8) = -1 then x_dN n else x_dN (x_gN n (x_f5 n f) (cl32 (f 13 (n 8))))
def x_fiF (n : Nat → Nat) (f : Nat → Nat → Int32) : Nat → Nat → Int32 := if f 14 (n 8) = -1 then f else x_gF n (x_f5 n f) (cl32 (f 13 (n 8)))
def x_lp (n : Nat → Nat) : Nat := x_pos n (n 9 - 1)
def x_lN (n : Nat → Nat) : Nat → Nat := un n 9 (n 9 - 1)
def x_tbN (n : Nat → Nat) (f : Nat → Nat → Int32) : Nat → Nat := if f 14 (x_lp n) = -1 then x_lN n else x_lN (x_gN n f (cl32 (f 12 (x_lp n))))
def x_tbF (n : Nat → Nat) (f : Nat → Nat → Int32) : Nat → Nat → Int32 := if f 14 (x_lp n) = -1 then f else uf (x_gF n f (cl32 (f 12 (x_lp n)))) 4 (upd (x_gF n f (cl32 (f 12 (x_lp n))) 4) (cl32 (f 14 (x_lp n))) (f 13 (x_lp n)))
theorem x_gN_o {n : Nat → Nat} {f : Nat → Nat → Int32} {q k : Nat} (h : k ≠ 7) : x_gN n f q k = n k := by
  unfold x_gN
  split
  · exact un_n h
  · rfl
theorem x_gF_o {n : Nat → Nat} {f : Nat → Nat → Int32} {q k : Nat} (h : k ≠ 7) (h2 : k ≠ 9) : x_gF n f q k = f k := by
  unfold x_gF
  split
  · rw [uf_n h2, uf_n h]
  · exact uf_n h
theorem x_gN_7 {n : Nat → Nat} {f : Nat → Nat → Int32} {q : Nat} : x_gN n f q 7 = n 7 ∨ x_gN n f q 7 = n 7 + 1 := by
  unfold x_gN
  split
  · exact Or.inr un_s
  · exact Or.inl rfl
theorem x_gN_bd {n : Nat → Nat} {f : Nat → Nat → Int32} {q : Nat} (h : x_bd n) (h7 : n 7 < n 1) : x_bd (x_gN n f q) := by
  have h8 := x_gN_7 (n := n) (f := f) (q := q)
  unfold x_bd at h ⊢
  rw [x_gN_o (k := 0) (by decide), x_gN_o (k := 1) (by decide), x_gN_o (k := 2) (by decide), x_gN_o (k := 3) (by decide), x_gN_o (k := 4) (by decide), x_gN_o (k := 5) (by decide), x_gN_o (k := 6) (by decide), x_gN_o (k := 8) (by decide), x_gN_o (k := 9) (by decide), x_gN_o (k := 10) (by decide), x_gN_o (k := 11) (by decide)]
  omega
/-- the oldest row has no register, or one and a name that it knows, which has a share; a place is left in the queue -/
def x_fs (n : Nat → Nat) (f : Nat → Nat → Int32) : Prop := f 14 (n 8) = -1 ∨ ∃ r q : Nat, f 14 (n 8) = nI r ∧ r < n 0 ∧ f 13 (n 8) = nI q ∧ q < n 1 ∧ ¬ f 7 q = 0 ∧ n 7 < n 1
def x_ts (n : Nat → Nat) (f : Nat → Nat → Int32) : Prop := f 14 (x_lp n) = -1 ∨ ∃ r q : Nat, f 14 (x_lp n) = nI r ∧ r < n 0 ∧ f 12 (x_lp n) = nI q ∧ q < n 1 ∧ ¬ f 7 q = 0 ∧ n 7 < n 1
