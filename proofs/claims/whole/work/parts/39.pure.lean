/-! my own: counting -/
def cn (P : Nat → Bool) : Nat → Nat
  | 0 => 0
  | k + 1 => cn P k + (if P k = true then 1 else 0)
theorem cn_le (P : Nat → Bool) : ∀ k, cn P k ≤ k
  | 0 => Nat.le_refl _
  | k + 1 => by
    have := cn_le P k
    simp only [cn]
    split <;> omega
theorem cn_ext {P Q : Nat → Bool} : ∀ k, (∀ i, i < k → P i = Q i) → cn P k = cn Q k
  | 0, _ => rfl
  | k + 1, h => by simp only [cn]; rw [cn_ext k (fun i hi => h i (by omega)), h k (by omega)]
theorem cn_pos {P : Nat → Bool} : ∀ (k i : Nat), i < k → P i = true → 0 < cn P k
  | 0, i, hi, _ => absurd hi (by omega)
  | k + 1, i, hi, hp => by
    simp only [cn]
    by_cases e : i = k
    · subst e; rw [if_pos hp]; omega
    · have := cn_pos k i (by omega) hp; omega
theorem cn_lt {P : Nat → Bool} : ∀ (k i : Nat), i < k → P i = false → cn P k < k
  | 0, i, hi, _ => absurd hi (by omega)
  | k + 1, i, hi, hp => by
    simp only [cn]
    by_cases e : i = k
    · subst e; rw [hp]; have := cn_le P i; simp; omega
    · have := cn_lt k i (by omega) hp
      split <;> omega
theorem cn_zero {P : Nat → Bool} : ∀ (k : Nat), (∀ i, i < k → P i = false) → cn P k = 0
  | 0, _ => rfl
  | k + 1, h => by simp only [cn]; rw [cn_zero k (fun i hi => h i (by omega)), h k (by omega)]; rfl
theorem cn_upd {P Q : Nat → Bool} {a : Nat} : ∀ (k : Nat), a < k → (∀ i, i < k → i ≠ a → P i = Q i) → cn P k + (if Q a = true then 1 else 0) = cn Q k + (if P a = true then 1 else 0)
  | 0, hi, _ => absurd hi (by omega)
  | k + 1, hi, h => by
    simp only [cn]
    by_cases e : a = k
    · subst e
      rw [cn_ext a (fun i hi => h i (by omega) (by omega))]
      omega
    · have := cn_upd k (by omega) (fun i hi ne => h i (by omega) ne)
      rw [h k (by omega) (fun q => e q.symm)]
      omega
theorem cn_shift {P : Nat → Bool} : ∀ (k : Nat), cn P (k + 1) = (if P 0 = true then 1 else 0) + cn (fun i => P (i + 1)) k
  | 0 => by simp [cn]
  | k + 1 => by rw [cn, cn_shift k, cn]; omega
theorem cn_split {P Q : Nat → Bool} : ∀ (k : Nat), cn P k = cn (fun i => P i && Q i) k + cn (fun i => P i && !Q i) k
  | 0 => rfl
  | k + 1 => by
    simp only [cn]
    rw [cn_split (P := P) (Q := Q) k]
    by_cases hp : P k = true <;> by_cases hq : Q k = true <;> simp [hp, hq] <;> omega
theorem cn_img {mk : Nat → Nat} {K : Nat} : ∀ (k : Nat) (P : Nat → Bool), (∀ s t, s < t → t < k → mk s ≠ mk t) → (∀ t, t < k → mk t < K) → (∀ j, j < K → (P j = true ↔ ∃ t, t < k ∧ mk t = j)) → cn P K = k
  | 0, P, _, _, h => cn_zero K (fun j hj => by
      cases e : P j with
      | false => rfl
      | true => obtain ⟨t, ht, _⟩ := (h j hj).mp e; omega)
  | k + 1, P, hd, hl, h => by
    have hk := hl k (by omega)
    have h1 := cn_img k (fun j => P j && !decide (j = mk k)) (fun s t a b => hd s t a (by omega)) (fun t ht => hl t (by omega)) (fun j hj => by
      constructor
      · intro q
        simp only [Bool.and_eq_true, Bool.not_eq_true', decide_eq_false_iff_not] at q
        obtain ⟨t, ht, e⟩ := (h j hj).mp q.1
        refine ⟨t, ?_, e⟩
        by_cases e2 : t = k
        · subst e2; exact absurd e.symm q.2
        · omega
      · rintro ⟨t, ht, e⟩
        have := hd t k ht (by omega)
        simp only [Bool.and_eq_true, Bool.not_eq_true', decide_eq_false_iff_not]
        exact ⟨(h j hj).mpr ⟨t, by omega, e⟩, fun q => this (by omega)⟩)
    have h2 := cn_upd (P := P) (Q := fun j => P j && !decide (j = mk k)) (a := mk k) K hk (fun i hi ne => by simp [ne])
    have h3 : P (mk k) = true := (h _ hk).mpr ⟨k, by omega, rfl⟩
    rw [h3] at h2
    simp at h2
    omega
/-! names: what they are held by -/
def cur (su rg gv : Nat → Int32) (r : Nat) : Nat → Int32
  | 0 => su r
  | k + 1 => if rg k = nI r then gv k else cur su rg gv r k
def sc (su rg gv : Nat → Int32) (R k q : Nat) : Nat := cn (fun r => decide (su r = nI q)) R + cn (fun i => !decide (rg i = -1) && decide (gv i = nI q)) k
theorem sc_le (su rg gv : Nat → Int32) (R k q : Nat) : sc su rg gv R k q ≤ R + k := by
  have h1 := cn_le (fun r => decide (su r = nI q)) R
  have h2 := cn_le (fun i => !decide (rg i = -1) && decide (gv i = nI q)) k
  unfold sc; omega
def iR (R T k : Nat) (nm su gv kn rg : Nat → Int32) : Prop :=
  (∀ i, i < k → (rg i = -1 ∧ gv i = -1) ∨ ∃ r q, r < R ∧ q < T ∧ rg i = nI r ∧ gv i = nI q) ∧
  (∀ r, r < R → ∃ q, q < T ∧ su r = nI q) ∧
  (∀ i r, i < k → r < R → rg i = nI r → kn i = cur su rg gv r i) ∧
  (∀ r, r < R → nm r = cur su rg gv r k)
def iS (T fr : Nat) (sh qu : Nat → Int32) (s : Nat → Nat) : Prop :=
  (∀ q, q < T → sh q = nI (s q) ∧ s q < 1000) ∧
  (∀ j, j < fr → ∃ q, q < T ∧ qu j = nI q ∧ s q = 0) ∧
  (∀ i j, i < j → j < fr → qu i ≠ qu j)
theorem nI_ne {a b : Nat} (ha : a < 2 ^ 31) (hb : b < 2 ^ 31) (h : a ≠ b) : ¬ nI a = nI b := fun q => h ((nI_eq ha hb).mp q)
theorem cur_name {R T k : Nat} {nm su gv kn rg : Nat → Int32} (h : iR R T k nm su gv kn rg) {r : Nat} (hr : r < R) (hR : R ≤ 32) : ∀ i, i ≤ k → ∃ q, q < T ∧ cur su rg gv r i = nI q ∧ 0 < sc su rg gv R k q
  | 0, _ => by
    obtain ⟨q, hq, e⟩ := h.2.1 r hr
    refine ⟨q, hq, e, ?_⟩
    have := cn_pos (P := fun r => decide (su r = nI q)) R r hr (by simp [e])
    unfold sc; omega
  | i + 1, hi => by
    simp only [cur]
    by_cases c : rg i = nI r
    · rw [if_pos c]
      rcases h.1 i (by omega) with ⟨e1, _⟩ | ⟨r', q, hr', hq, e1, e2⟩
      · rw [c] at e1; exact absurd e1 (nI_m1 (by omega))
      · refine ⟨q, hq, e2, ?_⟩
        have := cn_pos (P := fun i => !decide (rg i = -1) && decide (gv i = nI q)) k i (by omega) (by
          have : ¬ rg i = -1 := by rw [c]; exact nI_m1 (by omega)
          simp [this, e2])
        unfold sc; omega
    · rw [if_neg c]
      exact cur_name h hr hR i (by omega)
theorem cur_ext {su rg gv rg' gv' : Nat → Int32} {r : Nat} : ∀ i, (∀ j, j < i → rg' j = rg j ∧ gv' j = gv j) → cur su rg' gv' r i = cur su rg gv r i
  | 0, _ => rfl
  | i + 1, h => by
    simp only [cur]
    rw [(h i (by omega)).1, (h i (by omega)).2, cur_ext i (fun j hj => h j (by omega))]
/-- a place is left in the queue if a name is held -/
theorem iS_room {T fr : Nat} {sh qu : Nat → Int32} {s : Nat → Nat} (h : iS T fr sh qu s) (hT : T ≤ 96) {q : Nat} (hq : q < T) (hs : 0 < s q) : fr < T := by
  have hm : ∀ j, j < fr → ∃ q, q < T ∧ qu j = nI q ∧ s q = 0 := h.2.1
  have e : ∀ j, j < fr → ∃ q, q < T ∧ cl32 (qu j) = q ∧ qu j = nI q ∧ s q = 0 := fun j hj => by
    obtain ⟨q, h1, h2, h3⟩ := hm j hj
    exact ⟨q, h1, by rw [h2]; exact cl32_nI (by omega), h2, h3⟩
  have h1 := cn_img (mk := fun j => cl32 (qu j)) (K := T) fr (fun j => (List.range fr).any (fun t => cl32 (qu t) == j)) (fun a b hab hb q => by
    obtain ⟨x, _, x1, x2, _⟩ := e a (by omega)
    obtain ⟨y, _, y1, y2, _⟩ := e b hb
    exact h.2.2 a b hab hb (by rw [x2, y2, ← x1, ← y1]; exact congrArg nI q)) (fun t ht => by
      obtain ⟨x, hx, x1, _, _⟩ := e t ht
      show cl32 (qu t) < T
      omega) (fun j hj => by simp [List.any_eq_true])
  have h2 := cn_lt (P := fun j => (List.range fr).any (fun t => cl32 (qu t) == j)) T q hq (by
    cases c : (List.range fr).any (fun t => cl32 (qu t) == q) with
    | false => rfl
    | true =>
      simp only [List.any_eq_true, List.mem_range, beq_iff_eq] at c
      obtain ⟨t, ht, e1⟩ := c
      obtain ⟨x, _, x1, _, x3⟩ := e t ht
      rw [x1] at e1; subst e1; omega)
  omega
theorem iS_ext {T fr : Nat} {sh qu : Nat → Int32} {s s' : Nat → Nat} (h : iS T fr sh qu s) (e : ∀ q, q < T → s' q = s q) : iS T fr sh qu s' :=
  ⟨fun q hq => by rw [e q hq]; exact h.1 q hq, fun j hj => by
    obtain ⟨q, h1, h2, h3⟩ := h.2.1 j hj
    exact ⟨q, h1, h2, by rw [e q h1]; exact h3⟩, h.2.2⟩
theorem upd_s {u : Nat → Int32} {k : Nat} {x : Int32} : upd u k x k = x := by simp [upd]
theorem upd_n {u : Nat → Int32} {k j : Nat} {x : Int32} (h : j ≠ k) : upd u k x j = u j := by simp [upd, h]
theorem nI_p1 {s : Nat} (h : 0 < s) : nI s - nI 1 = nI (s - 1) := by
  obtain ⟨t, rfl⟩ : ∃ t, s = t + 1 := ⟨s - 1, by omega⟩
  rw [Nat.add_sub_cancel]; exact nI_pred t
theorem iS_keep {T fr : Nat} {sh qu : Nat → Int32} {s s' : Nat → Nat} {g : Nat} (h : iS T fr sh qu s) (hg : g < T) (e : ∀ q, q < T → s' q + (if q = g then 1 else 0) = s q) (h0 : 0 < s' g) : iS T fr (upd sh g (sh g - nI 1)) qu s' := by
  have eg := e g hg
  rw [if_pos rfl] at eg
  refine ⟨fun q hq => ?_, fun j hj => ?_, h.2.2⟩
  · have h1 := h.1 q hq
    have h2 := e q hq
    by_cases c : q = g
    · subst c
      rw [if_pos rfl] at h2
      rw [upd_s, h1.1, nI_p1 (by omega)]
      exact ⟨by congr 1; omega, by omega⟩
    · rw [if_neg c] at h2
      rw [upd_n c, h1.1]
      exact ⟨by congr 1; omega, by omega⟩
  · obtain ⟨q, h1, h2, h3⟩ := h.2.1 j hj
    have h4 := e q h1
    exact ⟨q, h1, h2, by omega⟩
theorem iS_give {T fr : Nat} {sh qu : Nat → Int32} {s s' : Nat → Nat} {g : Nat} (h : iS T fr sh qu s) (hT : T ≤ 96) (hg : g < T) (e : ∀ q, q < T → s' q + (if q = g then 1 else 0) = s q) (h0 : s' g = 0) : iS T (fr + 1) (upd sh g (sh g - nI 1)) (upd qu fr (nI g)) s' := by
  have eg := e g hg
  rw [if_pos rfl] at eg
  refine ⟨fun q hq => ?_, fun j hj => ?_, fun i j hij hj => ?_⟩
  · have h1 := h.1 q hq
    have h2 := e q hq
    by_cases c : q = g
    · subst c
      rw [if_pos rfl] at h2
      rw [upd_s, h1.1, nI_p1 (by omega)]
      exact ⟨by congr 1; omega, by omega⟩
    · rw [if_neg c] at h2
      rw [upd_n c, h1.1]
      exact ⟨by congr 1; omega, by omega⟩
  · by_cases c : j = fr
    · subst c; exact ⟨g, hg, upd_s, h0⟩
    · obtain ⟨q, h1, h2, h3⟩ := h.2.1 j (by omega)
      have h4 := e q h1
      exact ⟨q, h1, by rw [upd_n c]; exact h2, by omega⟩
  · rw [upd_n (show i ≠ fr by omega)]
    by_cases c : j = fr
    · subst c
      rw [upd_s]
      obtain ⟨q, h1, h2, h3⟩ := h.2.1 i hij
      rw [h2]
      refine nI_ne (by omega) (by omega) ?_
      intro q2; subst q2; omega
    · rw [upd_n c]; exact h.2.2 i j hij (by omega)
/-- one share more -/
theorem iS_more {T fr : Nat} {sh qu : Nat → Int32} {s s' : Nat → Nat} {g : Nat} (h : iS T fr sh qu s) (hg : g < T) (e : ∀ q, q < T → s' q = s q + (if q = g then 1 else 0)) (hb : s' g < 1000) (h0 : 0 < s g) : iS T fr (upd sh g (sh g + nI 1)) qu s' := by
  have eg := e g hg
  rw [if_pos rfl] at eg
  refine ⟨fun q hq => ?_, fun j hj => ?_, h.2.2⟩
  · have h1 := h.1 q hq
    have h2 := e q hq
    by_cases c : q = g
    · subst c
      rw [upd_s, h1.1, nI_add]
      exact ⟨by congr 1; omega, hb⟩
    · rw [if_neg c] at h2
      rw [upd_n c, h1.1]
      exact ⟨by congr 1; omega, by omega⟩
  · obtain ⟨q, h1, h2, h3⟩ := h.2.1 j hj
    have h4 := e q h1
    refine ⟨q, h1, h2, ?_⟩
    by_cases c : q = g
    · subst c; omega
    · rw [if_neg c] at h4; omega
/-- the first free name is taken -/
theorem iS_take {T fr : Nat} {sh qu qu' : Nat → Int32} {s s' : Nat → Nat} {g : Nat} (h : iS T fr sh qu s) (hf : 0 < fr) (hg : g < T) (hT : T ≤ 96) (hq0 : qu 0 = nI g) (hqu : ∀ j, j + 1 < fr → qu' j = qu (j + 1)) (e : ∀ q, q < T → s' q = s q + (if q = g then 1 else 0)) : s g = 0 ∧ iS T (fr - 1) (upd sh g (nI 1)) qu' s' := by
  have sg : s g = 0 := by
    obtain ⟨q, h1, h2, h3⟩ := h.2.1 0 hf
    rw [hq0] at h2
    have := (nI_eq (by omega) (by omega)).mp h2
    subst this; exact h3
  refine ⟨sg, fun q hq => ?_, fun j hj => ?_, fun i j hij hj => ?_⟩
  · have h1 := h.1 q hq
    have h2 := e q hq
    by_cases c : q = g
    · subst c
      rw [if_pos rfl, sg] at h2
      rw [upd_s, h2]
      exact ⟨rfl, by omega⟩
    · rw [if_neg c] at h2
      rw [upd_n c, h1.1]
      exact ⟨by congr 1; omega, by omega⟩
  · obtain ⟨q, h1, h2, h3⟩ := h.2.1 (j + 1) (by omega)
    have h4 := e q h1
    have h5 := h.2.2 0 (j + 1) (by omega) (by omega)
    rw [hq0, h2] at h5
    refine ⟨q, h1, by rw [hqu j (by omega)]; exact h2, ?_⟩
    by_cases c : q = g
    · subst c; exact absurd rfl h5
    · rw [if_neg c] at h4; omega
  · rw [hqu i (by omega), hqu j (by omega)]
    exact h.2.2 _ _ (by omega) (by omega)
/-! my own: rows come and go -/
theorem sc_app {su rg gv rg' gv' : Nat → Int32} {R k q : Nat} (h : ∀ j, j < k → rg' j = rg j ∧ gv' j = gv j) : sc su rg' gv' R (k + 1) q = sc su rg gv R k q + (if (!decide (rg' k = -1) && decide (gv' k = nI q)) = true then 1 else 0) := by
  unfold sc
  rw [cn, cn_ext (P := fun i => !decide (rg' i = -1) && decide (gv' i = nI q)) (Q := fun i => !decide (rg i = -1) && decide (gv i = nI q)) k (fun i hi => by
    show (!decide (rg' i = -1) && decide (gv' i = nI q)) = (!decide (rg i = -1) && decide (gv i = nI q))
    rw [(h i hi).1, (h i hi).2])]
  omega
/-- a row without a register -/
theorem iR_app0 {R T k : Nat} {nm su gv kn rg gv' kn' rg' : Nat → Int32} (h : iR R T k nm su gv kn rg) (hR : R ≤ 32) (e : ∀ j, j < k → rg' j = rg j ∧ gv' j = gv j ∧ kn' j = kn j) (e1 : rg' k = -1) (e2 : gv' k = -1) : iR R T (k + 1) nm su gv' kn' rg' := by
  have ce : ∀ r i, i ≤ k → cur su rg' gv' r i = cur su rg gv r i := fun r i hi => cur_ext i (fun j hj => ⟨(e j (by omega)).1, (e j (by omega)).2.1⟩)
  refine ⟨fun i hi => ?_, h.2.1, fun i r hi hr hg => ?_, fun r hr => ?_⟩
  · by_cases c : i = k
    · subst c; exact Or.inl ⟨e1, e2⟩
    · have := h.1 i (by omega)
      rw [(e i (by omega)).1, (e i (by omega)).2.1]; exact this
  · by_cases c : i = k
    · subst c; rw [e1] at hg; exact absurd hg.symm (nI_m1 (by omega))
    · rw [ce r i (by omega), (e i (by omega)).2.2]
      exact h.2.2.1 i r (by omega) hr (by rw [← (e i (by omega)).1]; exact hg)
  · rw [cur, if_neg (by rw [e1]; exact fun q => nI_m1 (by omega) q.symm), ce r k (Nat.le_refl _)]
    exact h.2.2.2 r hr
/-- a row with a register -/
theorem iR_app {R T k r0 q0 : Nat} {nm su gv kn rg gv' kn' rg' : Nat → Int32} (h : iR R T k nm su gv kn rg) (hR : R ≤ 32) (e : ∀ j, j < k → rg' j = rg j ∧ gv' j = gv j ∧ kn' j = kn j) (hr0 : r0 < R) (hq0 : q0 < T) (e1 : rg' k = nI r0) (e2 : gv' k = nI q0) (e3 : kn' k = nm r0) : iR R T (k + 1) (upd nm r0 (nI q0)) su gv' kn' rg' := by
  have ce : ∀ r i, i ≤ k → cur su rg' gv' r i = cur su rg gv r i := fun r i hi => cur_ext i (fun j hj => ⟨(e j (by omega)).1, (e j (by omega)).2.1⟩)
  refine ⟨fun i hi => ?_, h.2.1, fun i r hi hr hg => ?_, fun r hr => ?_⟩
  · by_cases c : i = k
    · subst c; exact Or.inr ⟨r0, q0, hr0, hq0, e1, e2⟩
    · have := h.1 i (by omega)
      rw [(e i (by omega)).1, (e i (by omega)).2.1]; exact this
  · by_cases c : i = k
    · subst c
      rw [e1] at hg
      have := (nI_eq (by omega) (by omega)).mp hg
      subst this
      rw [e3, ce r0 i (Nat.le_refl _)]; exact h.2.2.2 r0 hr
    · rw [ce r i (by omega), (e i (by omega)).2.2]
      exact h.2.2.1 i r (by omega) hr (by rw [← (e i (by omega)).1]; exact hg)
  · rw [cur]
    by_cases c : r = r0
    · subst c
      rw [if_pos e1, upd_s, e2]
    · rw [if_neg (by rw [e1]; exact nI_ne (by omega) (by omega) (fun q => c q.symm)), upd_n c, ce r k (Nat.le_refl _)]
      exact h.2.2.2 r hr
theorem iR_ext {R T k : Nat} {nm su gv kn rg nm' su' gv' kn' rg' : Nat → Int32} (h : iR R T k nm su gv kn rg) (e : ∀ j, j < k → rg' j = rg j ∧ gv' j = gv j ∧ kn' j = kn j) (e2 : ∀ r, r < R → nm' r = nm r ∧ su' r = su r) : iR R T k nm' su' gv' kn' rg' := by
  have ce : ∀ r i, r < R → i ≤ k → cur su' rg' gv' r i = cur su rg gv r i := fun r i hr hi => by
    induction i with
    | zero => exact (e2 r hr).2
    | succ i ih => simp only [cur]; rw [(e i (by omega)).1, (e i (by omega)).2.1, ih (by omega)]
  refine ⟨fun i hi => ?_, fun r hr => ?_, fun i r hi hr hg => ?_, fun r hr => ?_⟩
  · rw [(e i hi).1, (e i hi).2.1]; exact h.1 i hi
  · rw [(e2 r hr).2]; exact h.2.1 r hr
  · rw [ce r i hr (by omega), (e i hi).2.2]
    exact h.2.2.1 i r hi hr (by rw [← (e i hi).1]; exact hg)
  · rw [ce r k hr (Nat.le_refl _), (e2 r hr).1]; exact h.2.2.2 r hr
/-- the last row is taken back -/
theorem iR_last0 {R T k : Nat} {nm su gv kn rg : Nat → Int32} (h : iR R T (k + 1) nm su gv kn rg) (hR : R ≤ 32) (e1 : rg k = -1) : iR R T k nm su gv kn rg := by
  refine ⟨fun i hi => h.1 i (by omega), h.2.1, fun i r hi => h.2.2.1 i r (by omega), fun r hr => ?_⟩
  have := h.2.2.2 r hr
  rwa [cur, if_neg (by rw [e1]; exact fun q => nI_m1 (by omega) q.symm)] at this
theorem iR_last {R T k r0 : Nat} {nm su gv kn rg : Nat → Int32} (h : iR R T (k + 1) nm su gv kn rg) (hR : R ≤ 32) (hr0 : r0 < R) (e1 : rg k = nI r0) : iR R T k (upd nm r0 (kn k)) su gv kn rg := by
  refine ⟨fun i hi => h.1 i (by omega), h.2.1, fun i r hi => h.2.2.1 i r (by omega), fun r hr => ?_⟩
  by_cases c : r = r0
  · subst c
    rw [upd_s]
    exact h.2.2.1 k r (by omega) hr e1
  · have := h.2.2.2 r hr
    rw [cur, if_neg (by rw [e1]; exact nI_ne (by omega) (by omega) (fun q => c q.symm))] at this
    rw [upd_n c]; exact this
theorem sc_last {su rg gv : Nat → Int32} {R k q : Nat} : sc su rg gv R (k + 1) q = sc su rg gv R k q + (if (!decide (rg k = -1) && decide (gv k = nI q)) = true then 1 else 0) := sc_app (fun _ _ => ⟨rfl, rfl⟩)
/-- the oldest row leaves -/
theorem cur_sh {su su' rg gv rg' gv' : Nat → Int32} {r : Nat} (h0 : su' r = cur su rg gv r 1) : ∀ i, (∀ j, j < i → rg' j = rg (j + 1) ∧ gv' j = gv (j + 1)) → cur su' rg' gv' r i = cur su rg gv r (i + 1)
  | 0, _ => h0
  | i + 1, h => by
    rw [cur, cur, (h i (by omega)).1, (h i (by omega)).2, cur_sh h0 i (fun j hj => h j (by omega))]
theorem iR_old0 {R T k : Nat} {nm su gv kn rg gv' kn' rg' : Nat → Int32} (h : iR R T (k + 1) nm su gv kn rg) (hR : R ≤ 32) (e : ∀ j, j < k → rg' j = rg (j + 1) ∧ gv' j = gv (j + 1) ∧ kn' j = kn (j + 1)) (e1 : rg 0 = -1) : iR R T k nm su gv' kn' rg' := by
  have ce : ∀ r i, r < R → i ≤ k → cur su rg' gv' r i = cur su rg gv r (i + 1) := fun r i hr hi => cur_sh (by rw [cur, if_neg (by rw [e1]; exact fun q => nI_m1 (by omega) q.symm)]; rfl) i (fun j hj => ⟨(e j (by omega)).1, (e j (by omega)).2.1⟩)
  refine ⟨fun i hi => ?_, h.2.1, fun i r hi hr hg => ?_, fun r hr => ?_⟩
  · rw [(e i hi).1, (e i hi).2.1]; exact h.1 (i + 1) (by omega)
  · rw [ce r i hr (by omega), (e i hi).2.2]
    exact h.2.2.1 (i + 1) r (by omega) hr (by rw [← (e i hi).1]; exact hg)
  · rw [ce r k hr (Nat.le_refl _)]; exact h.2.2.2 r hr
theorem iR_old {R T k r0 : Nat} {nm su gv kn rg gv' kn' rg' : Nat → Int32} (h : iR R T (k + 1) nm su gv kn rg) (hR : R ≤ 32) (e : ∀ j, j < k → rg' j = rg (j + 1) ∧ gv' j = gv (j + 1) ∧ kn' j = kn (j + 1)) (hr0 : r0 < R) (e1 : rg 0 = nI r0) : iR R T k nm (upd su r0 (gv 0)) gv' kn' rg' := by
  have ce : ∀ r i, r < R → i ≤ k → cur (upd su r0 (gv 0)) rg' gv' r i = cur su rg gv r (i + 1) := fun r i hr hi => cur_sh (by
    rw [cur]
    by_cases c : r = r0
    · subst c; rw [if_pos e1, upd_s]
    · rw [if_neg (by rw [e1]; exact nI_ne (by omega) (by omega) (fun q => c q.symm)), upd_n c]; rfl) i (fun j hj => ⟨(e j (by omega)).1, (e j (by omega)).2.1⟩)
  refine ⟨fun i hi => ?_, fun r hr => ?_, fun i r hi hr hg => ?_, fun r hr => ?_⟩
  · rw [(e i hi).1, (e i hi).2.1]; exact h.1 (i + 1) (by omega)
  · by_cases c : r = r0
    · subst c
      rw [upd_s]
      rcases h.1 0 (by omega) with ⟨x, _⟩ | ⟨r', q, _, hq, _, x⟩
      · rw [e1] at x; exact absurd x (nI_m1 (by omega))
      · exact ⟨q, hq, x⟩
    · rw [upd_n c]; exact h.2.1 r hr
  · rw [ce r i hr (by omega), (e i hi).2.2]
    exact h.2.2.1 (i + 1) r (by omega) hr (by rw [← (e i hi).1]; exact hg)
  · rw [ce r k hr (Nat.le_refl _)]; exact h.2.2.2 r hr
theorem sc_old0 {su rg gv rg' gv' : Nat → Int32} {R k q : Nat} (e : ∀ j, j < k → rg' j = rg (j + 1) ∧ gv' j = gv (j + 1)) (e1 : rg 0 = -1) : sc su rg' gv' R k q = sc su rg gv R (k + 1) q := by
  unfold sc
  rw [cn_shift, cn_ext (P := fun i => !decide (rg' i = -1) && decide (gv' i = nI q)) (Q := fun i => !decide (rg (i + 1) = -1) && decide (gv (i + 1) = nI q)) k (fun i hi => by
    show (!decide (rg' i = -1) && decide (gv' i = nI q)) = (!decide (rg (i + 1) = -1) && decide (gv (i + 1) = nI q))
    rw [(e i hi).1, (e i hi).2])]
  simp [e1]
theorem sc_old {su rg gv rg' gv' : Nat → Int32} {R k q r0 q0 : Nat} (e : ∀ j, j < k → rg' j = rg (j + 1) ∧ gv' j = gv (j + 1)) (hr0 : r0 < R) (hR : R ≤ 32) (e1 : rg 0 = nI r0) (e2 : su r0 = nI q0) (hq : q < 96) (hq0 : q0 < 96) : sc (upd su r0 (gv 0)) rg' gv' R k q + (if q = q0 then 1 else 0) = sc su rg gv R (k + 1) q := by
  have h1 := cn_upd (P := fun r => decide (upd su r0 (gv 0) r = nI q)) (Q := fun r => decide (su r = nI q)) (a := r0) R hr0 (fun i hi ne => by
    show decide (upd su r0 (gv 0) i = nI q) = decide (su i = nI q)
    rw [upd_n ne])
  have n1 : ¬ rg 0 = -1 := by rw [e1]; exact nI_m1 (by omega)
  unfold sc
  rw [cn_shift, cn_ext (P := fun i => !decide (rg' i = -1) && decide (gv' i = nI q)) (Q := fun i => !decide (rg (i + 1) = -1) && decide (gv (i + 1) = nI q)) k (fun i hi => by
    show (!decide (rg' i = -1) && decide (gv' i = nI q)) = (!decide (rg (i + 1) = -1) && decide (gv (i + 1) = nI q))
    rw [(e i hi).1, (e i hi).2])]
  have n2 : (nI q0 = nI q) ↔ q = q0 := by
    rw [nI_eq (by omega) (by omega)]
    exact ⟨fun x => x.symm, fun x => x.symm⟩
  simp only [upd_s, e2, n2, decide_eq_true_eq, n1, decide_false, Bool.not_false, Bool.true_and] at h1 ⊢
  omega
