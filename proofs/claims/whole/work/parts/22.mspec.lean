/-! my own: what the reference's readers say, over its numbers g and its arrays h -/
def m_bd (g : Nat → Nat) : Prop := 1 ≤ g 1 ∧ g 1 ≤ 32 ∧ g 1 < g 2 ∧ g 2 ≤ 96 ∧ 1 ≤ g 3 ∧ g 3 ≤ 64 ∧ g 0 < 1000 ∧ g 9 ≤ 96 ∧ g 10 ≤ g 3 ∧ g 11 < g 3 ∧ g 22 < 1000000 ∧ g 23 < 1000000 ∧ g 25 < 1000000 ∧ g 26 < 1000000 ∧ g 27 < 1000000 ∧ g 28 < 1000000
def m_ok (x : Int32) : Prop := x = -1 ∨ ∃ j : Nat, j < 96 ∧ x = nI j
theorem m_ok_j {x : Int32} (h : m_ok x) (hx : ¬ x < 0) : ∃ j : Nat, j < 96 ∧ x = nI j := by
  rcases h with h | h
  · exact absurd (by rw [h]; decide) hx
  · exact h
def m_rdy (h : Nat → Nat → Int32) (x : Int32) : Bool := decide (x < 0) || !decide (h 7 (cl32 x) = 0)
def m_may (h : Nat → Nat → Int32) (i : Nat) : Bool := decide (h 18 i = 0) && (m_rdy h (h 12 i) && m_rdy h (h 13 i))
def m_okr (g : Nat → Nat) (h : Nat → Nat → Int32) : Prop := ∀ i : Nat, i < g 10 → m_ok (h 12 i) ∧ m_ok (h 13 i)
def m_cnt (h : Nat → Nat → Int32) : Nat → Nat
  | 0 => 0
  | k + 1 => m_cnt h k + (if m_may h k = true then 1 else 0)
def m_pos (g : Nat → Nat) (i : Nat) : Nat := (g 11 + i) % g 3
def m_atv (g : Nat → Nat) (j : Nat) : Nat := (j + g 3 - g 11) % g 3
def m_at (g : Nat → Nat) (j : Nat) : Int32 := if m_atv g j < g 10 then nI (m_atv g j) else -1
def m_th (a b c : Nat) : Nat := if a = 0 then (if b = 0 then (if c = 0 then 0 else 3) else 2) else 1
def m_tr (a b c : Nat) : Nat := if a = 0 then (if b = 0 then (if c = 0 then 0 else 1) else 1) else 1
def m_gN (g : Nat → Nat) (h : Nat → Nat → Int32) (q : Nat) : Nat → Nat := if h 6 q - nI 1 ≤ 0 then un g 9 (g 9 + 1) else g
def m_gF (g : Nat → Nat) (h : Nat → Nat → Int32) (q : Nat) : Nat → Nat → Int32 := if h 6 q - nI 1 ≤ 0 then uf (uf h 6 (upd (h 6) q (h 6 q - nI 1))) 8 (upd (h 8) (g 9) (nI q)) else uf h 6 (upd (h 6) q (h 6 q - nI 1))
def m_bl (h : Nat → Nat → Int32) : Nat → Nat → Int32 → Int32
  | 0, _, x => x
  | k + 1, j, x => m_bl h k (j + 1) (if (!decide (h 19 j = 0) && decide (h 20 j < x)) = true then h 20 j else x)
def m_bnd (h : Nat → Nat → Int32) : Int32 := m_bl h 8 0 2147483647
theorem m_atv_lt {g : Nat → Nat} {j : Nat} (h : 1 ≤ g 3) : m_atv g j < g 3 := Nat.mod_lt _ (by omega)
theorem m_pos_lt {g : Nat → Nat} {j : Nat} (h : 1 ≤ g 3) : m_pos g j < g 3 := Nat.mod_lt _ (by omega)
