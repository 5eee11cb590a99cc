/-! my own rows: constructors -/
section IN
variable {p : Program} {l : Launch} {e : Env} {R : Room} {s : State} {m : MethodId} {args : Array Value} {below : List Frame} {meth : Method} {c : Code} {H : Heap} {locs : List Loc} {cells slots : Nat} {Q : State → Prop} {pc : Nat} {ls : Array Slot} {rest st0 : List Value}
variable {cc : ByteArray} {D : va_G} {cl : List vw_C} {A A0 : Nat → Prop} {tys : List (ClassId × FieldType)} {ws ws' wc wr : va_W} {H0 : Heap} {av : Array Value}
def inQ (D : va_G) (cl : List vw_C) (w : (Nat → Nat) → va_W) (A : Nat → Prop) : Array Value → State → Outcome → State → Prop := fun _ st o t => o = .returned none ∧ (∃ q : Nat → Nat, va_P D cl (w q) t.heap ∧ va_D A (w q)) ∧ va_F A st t
theorem in_of {y : MethodName} {wk wk' : List Cond} {rm : Room} {sz mc ms : Nat} {av : List Value} {w : (Nat → Nat) → va_W} {maxL : Nat} {own : String} (hy : plainName y.cls = true) (ho : y.cls = own) (hyn : y.name = "<init>") (hw : wk = Cond.code y cc maxL none :: wk') (hfit : (lg_sl av).length ≤ maxL)
    (body : ∀ (p : Program) (e : Env) (s : State) (m : MethodId) (below : List Frame) (meth : Method) (c : Code) (A : Nat → Prop), s.heap.size = sz → va_A ws sz = A → p.tables.exec = Jvm.exec → c.code = cc → meth.sig.returnType = none → c.maxLocals = maxL → (∀ w ∈ wk, w.before av.toArray s = true) → s.vm.findClass own = some m.cls → meth.locks = false → meth.name = "<init>" → va_P D cl ws s.heap → va_K D cl tys s → va_D A ws → (∀ q, s.heap.size ≤ q → A q) → va_S A s.heap s.heap [] →
      ∀ ls : Array Slot, lv_has ls maxL (lv_args 0 av) → W p l e rm s m av.toArray below meth c s.heap [] 0 0 (MQ below (inQ D cl w A) av.toArray s mc ms A) (F0 m 0 ls [])) : Met l y wk rm (wrPc D cl ws tys sz av) (inQ D cl w (va_A ws sz)) mc ms (va_A ws sz) := by
  refine Met.ofW (cc := cc) (maxL := maxL) (ret := none) hy hw ?_
  intro p e s m args below meth c s₁ B hml hv
  obtain ⟨rfl, hsz, hP, hK, hD0⟩ := hv
  have hl := lv_entry av (n := maxL) hfit
  rw [lg_entry_eq]
  generalize (lg_sl av ++ List.replicate (maxL - (lg_sl av).length) Slot.unset).toArray = ls at hl ⊢
  exact body p e s m below meth c _ hsz rfl B.exec B.bytes B.returns hml (atoms_spec (ws := wk) B.pre) (ho ▸ findClass_of_methodNamed B.named) B.notSynchronized (hyn ▸ (name_of_methodNamed B.named B.method).1) hP hK hD0.self (fun q h => Or.inr (by omega)) va_S.rf ls hl
theorem in_vret {w : (Nat → Nat) → va_W} (q : Nat → Nat) (hexec : p.tables.exec = Jvm.exec) (hb : c.code = cc) (hr : meth.sig.returnType = none) (hlocks : meth.locks = false) (hP : va_P D cl (w q) H) (hD : va_D A (w q)) (hS : va_S A s.heap H locs) (hdg : decode cc pc = .ok (.return_, 1)) : W p l e R s m args below meth c H locs cells slots (MQ below (inQ D cl w A) args s cells slots A) (F0 m pc ls []) :=
  W.vret hexec hb hr (fun t ht _ => ⟨rfl, ⟨q, by rw [ht]; exact hP, hD⟩, hS.F ht⟩) hS.2.2 hdg hlocks
theorem in_call {w : (Nat → Nat) → va_W} {mc ms : Nat} (hr : va_Run p l e R s m args below meth c H locs cells slots mc ms (F0 m pc ls st0) rest (inQ D cl w (va_A wc H.size) av) (va_A wc H.size)) (hS : va_S A0 H0 H locs) (hP : va_P D cl ws H) (hD : va_D A0 ws) (hA : ∀ q, H0.size ≤ q → A0 q) (isC isR : List Nat) (hC : isC.map (fun i => ws[i]?) = wc.map some) (hR : isR.map (fun i => ws[i]?) = wr.map some) (hn : va_nd isR = true) (hdis : ∀ i ∈ isR, i ∉ isC)
    (kk : ∀ (q : Nat → Nat) (H1 : Heap) (locs1 : List Loc), va_P D cl (wr ++ w q) H1 → va_D A0 (wr ++ w q) → va_S A0 H0 H1 locs1 → W p l e R s m args below meth c H1 locs1 (cells + mc) (slots + ms) Q (F0 m (pc + 3) ls rest)) : W p l e R s m args below meth c H locs cells slots Q (F0 m pc ls st0) := by
  have hF := va_free (wc := wc) hD hS hA isC hC
  intro T hT X
  obtain ⟨v, st₀, t, T', L, h0, X', hL, e1, e2, ⟨hv, ⟨q, hp, hd⟩, hz, hk⟩, st⟩ := hr T hT X
  cases hv
  rw [h0] at hz hk
  have hp' : va_P D cl (w q) T'.heap := by rw [e1]; exact hp
  have hk' : ∀ q : Nat, q < H.size → ¬ va_A wc H.size q → T'.heap[q]? = H[q]? := fun q h1 h2 => by rw [e1]; exact hk q h1 h2
  obtain ⟨hP2, hD2⟩ := va_join hP hD isC isR hC hR hn hdis hk' hF hp' hd
  obtain ⟨t2, a1, b1⟩ := kk q T'.heap (locs ++ L) hP2 hD2
    ⟨Nat.le_trans hS.1 (by rw [e1]; exact hz), fun q h1 h2 => by rw [e1, hk q (Nat.lt_of_lt_of_le h1 hS.1) (fun z => h2 (hF q z))]; exact hS.2.1 q h1 h2, fun q hq => by
      rcases List.mem_append.mp hq with h | h
      · exact hS.2.2 q h
      · exact hF _ (hL q h)⟩ T' rfl X'
  exact ⟨t2, st t2 a1, b1⟩
theorem na_row {cs : ClassId × ClassId} {at0 : ArrayType} {ty : FieldType} (t0 : Nat) {c0 : ClassId} (hexec : p.tables.exec = Jvm.exec) (hb : c.code = cc) (harr : (Cond.arrayClass (newarray.typeOf at0)).before args s = true) (hty : newarray.typeOf at0 = ty) (hprim : ty = .int ∨ ty = .boolean) (hK : va_K D cl (tyl cs) s) (ht0 : (tyl cs)[t0]? = some (c0, ty)) (hP : va_P D cl ws H) (hD : va_D A ws) (hS : va_S A H0 H locs) (hA : ∀ q, H0.size ≤ q → A q) {N' : Nat} (hN : N' < 1000)
    (hcells : cells + 1 ≤ R.cells) (hslots : slots + N' ≤ R.slots) (hdg : decode cc pc = .ok (.newarray at0, 2))
    (kk : ∀ (q : Nat) (H1 : Heap), va_P D cl (ws ++ [(q, .inl (c0, N', .inl (fun _ => 0)))]) H1 → va_D A (ws ++ [(q, .inl (c0, N', .inl (fun _ => 0)))]) → va_S A H0 H1 locs →
      W p l e R s m args below meth c H1 locs (cells + 1) (slots + N') Q (F0 m (pc + 2) ls (.ref q :: rest))) : W p l e R s m args below meth c H locs cells slots Q (F0 m pc ls (.int (nI N') :: rest)) := by
  refine va_newa (a0 := (N', .inl (fun _ => 0))) hexec hb harr hty hK hP hD hS hA (fun cA => ?_) (nI_pos (by omega)) (nI_clamp (by omega)) ?_ hcells hslots hdg (fun q cA H1 hK1 hP1 hD1 hS1 => ?_)
  · rcases hprim with rfl | rfl <;> rfl
  · rcases hprim with rfl | rfl <;> simp [componentBytes] <;> omega
  · have h1 := (hK.2 t0 _ ht0).2
    have h2 := (hK1.2 2 (cA, ty) rfl).2
    have e0 : cA = c0 := by
      rcases hprim with rfl | rfl
      · exact Option.some.inj (Eq.trans (Eq.symm h2) h1)
      · exact Option.some.inj (Eq.trans (Eq.symm h2) h1)
    subst e0
    exact kk q H1 hP1 hD1 hS1
end IN
def x_id (k : Nat) : Nat → Int32 := fun j => if j < k then nI j else 0
def x_one (k : Nat) : Nat → Int32 := fun j => if j < k then nI 1 else 0
def x_non (k : Nat) : Nat → Int32 := fun j => if j < k then -1 else 0
def x_qu (r k : Nat) : Nat → Int32 := fun j => if j < k then nI (r + j) else 0
theorem x_id_s (k : Nat) : upd (x_id k) k (nI k) = x_id (k + 1) := by
  funext j; unfold upd x_id
  by_cases h : j = k
  · subst h; simp
  · rw [if_neg h]
    by_cases h1 : j < k
    · rw [if_pos h1, if_pos (by omega)]
    · rw [if_neg h1, if_neg (by omega)]
theorem x_one_s (k : Nat) : upd (x_one k) k (nI 1) = x_one (k + 1) := by
  funext j; unfold upd x_one
  by_cases h : j = k
  · subst h; simp
  · rw [if_neg h]
    by_cases h1 : j < k
    · rw [if_pos h1, if_pos (by omega)]
    · rw [if_neg h1, if_neg (by omega)]
theorem x_non_s (k : Nat) : upd (x_non k) k (-1) = x_non (k + 1) := by
  funext j; unfold upd x_non
  by_cases h : j = k
  · subst h; simp
  · rw [if_neg h]
    by_cases h1 : j < k
    · rw [if_pos h1, if_pos (by omega)]
    · rw [if_neg h1, if_neg (by omega)]
theorem x_qu_s (r k : Nat) : upd (x_qu r k) k (nI (r + k)) = x_qu r (k + 1) := by
  funext j; unfold upd x_qu
  by_cases h : j = k
  · subst h; simp
  · rw [if_neg h]
    by_cases h1 : j < k
    · rw [if_pos h1, if_pos (by omega)]
    · rw [if_neg h1, if_neg (by omega)]
theorem x_id_0 : x_id 0 = fun _ => 0 := by funext j; simp [x_id]
theorem x_one_0 : x_one 0 = fun _ => 0 := by funext j; simp [x_one]
theorem x_non_0 : x_non 0 = fun _ => 0 := by funext j; simp [x_non]
theorem x_qu_0 (r : Nat) : x_qu r 0 = fun _ => 0 := by funext j; simp [x_qu]
