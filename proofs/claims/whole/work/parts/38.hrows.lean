/-! my own rows: calls on a block of the world; the law's helpers, which catch -/
abbrev tyl3 (cs : ClassId × ClassId) (c3 : ClassId) : List (ClassId × FieldType) := [(cs.1, .int), (cs.2, .boolean), (c3, .long)]
def thN (U : State) : Prop := va_Nc eS eA U ∧ va_Nc eG eA U ∧ va_Nc eG eS U ∧ (Cond.classLink RL 13 eA).before #[] U = true
theorem thN_moved {s U : State} (hW : s.WarmedH U.vm) (h : thN s) : thN U := ⟨h.1.moved hW.alike, h.2.1.moved hW.alike, h.2.2.1.moved hW.alike, mvW_moved hW rfl h.2.2.2⟩
section HR
variable {p : Program} {l : Launch} {e : Env} {R : Room} {s : State} {m : MethodId} {args : Array Value} {below : List Frame} {meth : Method} {c : Code} {H : Heap} {locs : List Loc} {cells slots : Nat} {Q : State → Prop} {pc : Nat} {ls : Array Slot} {rest st0 : List Value}
variable {cc : ByteArray} {D : va_G} {cl : List vw_C} {A A0 : Nat → Prop} {tys : List (ClassId × FieldType)} {ws ws' w0 wc wr w1 : va_W} {H0 : Heap} {av : Array Value}
theorem blkP (h : va_P D cl (w0 ++ (wc ++ wr)) H) : va_P D cl wc H := fun k q hk => h (w0.length + k) q (by
  have hl : k < wc.length := (List.getElem?_eq_some_iff.mp hk).1
  rw [List.getElem?_append_right (by omega), Nat.add_sub_cancel_left, List.getElem?_append_left hl]; exact hk)
theorem blkI {k : Nat} {q : Nat × va_E} (hk : wc[k]? = some q) : (w0 ++ (wc ++ wr))[w0.length + k]? = some q := by
  have hl : k < wc.length := (List.getElem?_eq_some_iff.mp hk).1
  rw [List.getElem?_append_right (by omega), Nat.add_sub_cancel_left, List.getElem?_append_left hl]; exact hk
theorem blkD (h : va_D A (w0 ++ (wc ++ wr))) : va_D A wc := ⟨fun i j p q hi hj e => by
  have := h.1 _ _ _ _ (blkI (w0 := w0) (wr := wr) hi) (blkI (w0 := w0) (wr := wr) hj) e
  omega, fun k q hk => h.2 _ _ (blkI (w0 := w0) (wr := wr) hk)⟩
theorem blk_put (hP : va_P D cl (w0 ++ (wc ++ wr)) H) (hD : va_D A (w0 ++ (wc ++ wr))) {H1 : Heap} (hk : ∀ q : Nat, q < H.size → ¬ va_A wc H.size q → H1[q]? = H[q]?) (h1 : va_P D cl w1 H1) : va_P D cl (w0 ++ (w1 ++ wr)) H1 := by
  have out : ∀ (i : Nat) (q : Nat × va_E), (w0 ++ (wc ++ wr))[i]? = some q → (i < w0.length ∨ w0.length + wc.length ≤ i) → va_at D cl q H1 := by
    intro i q hq hi
    have hlt := (hP i q hq).lt
    refine (hP i q hq).kept (hk q.1 hlt ?_)
    rintro (⟨k, e, hke⟩ | h)
    · have := hD.1 _ _ _ _ hq (blkI (w0 := w0) (wr := wr) hke) rfl
      have hl : k < wc.length := (List.getElem?_eq_some_iff.mp hke).1
      omega
    · omega
  intro k q hq
  by_cases c1 : k < w0.length
  · rw [List.getElem?_append_left c1] at hq
    exact out k q (by rw [List.getElem?_append_left c1]; exact hq) (Or.inl c1)
  · rw [List.getElem?_append_right (by omega)] at hq
    by_cases c2 : k - w0.length < w1.length
    · rw [List.getElem?_append_left c2] at hq
      exact h1 _ q hq
    · rw [List.getElem?_append_right (by omega)] at hq
      refine out (w0.length + (wc.length + (k - w0.length - w1.length))) q ?_ (Or.inr (by omega))
      rw [List.getElem?_append_right (by omega), Nat.add_sub_cancel_left, List.getElem?_append_right (by omega), Nat.add_sub_cancel_left]
      exact hq
theorem blk_call {ov : Option Value} {mc ms : Nat} (hr : va_Run p l e R s m args below meth c H locs cells slots mc ms (F0 m pc ls st0) rest (wrQ D cl w1 ov (va_A wc H.size) av) (va_A wc H.size)) (hS : va_S A0 H0 H locs) (hP : va_P D cl (w0 ++ (wc ++ wr)) H) (hD : va_D A0 (w0 ++ (wc ++ wr))) (hA : ∀ q, H0.size ≤ q → A0 q) (hsm : w1.map Prod.fst = wc.map Prod.fst)
    (kk : ∀ (H1 : Heap) (locs1 : List Loc), va_P D cl (w0 ++ (w1 ++ wr)) H1 → va_D A0 (w0 ++ (w1 ++ wr)) → va_S A0 H0 H1 locs1 → W p l e R s m args below meth c H1 locs1 (cells + mc) (slots + ms) Q (F0 m (pc + 3) ls (ov.toList ++ rest))) : W p l e R s m args below meth c H locs cells slots Q (F0 m pc ls st0) := by
  have hF := wr_free (blkD hD) hS hA
  intro T hT X
  obtain ⟨v, st₀, t, T', L, h0, X', hL, e1, e2, ⟨hv, hp, hz, hk⟩, st⟩ := hr T hT X
  cases hv
  rw [h0] at hz hk
  have hk' : ∀ q : Nat, q < H.size → ¬ va_A wc H.size q → T'.heap[q]? = H[q]? := fun q h1 h2 => by rw [e1]; exact hk q h1 h2
  obtain ⟨t2, a1, b1⟩ := kk T'.heap (locs ++ L) (blk_put hP hD hk' (by rw [e1]; exact hp)) (hD.same (by rw [List.map_append, List.map_append, List.map_append, List.map_append, hsm]))
    ⟨Nat.le_trans hS.1 (by rw [e1]; exact hz), fun q h1 h2 => by rw [e1, hk q (Nat.lt_of_lt_of_le h1 hS.1) (fun z => h2 (hF q z))]; exact hS.2.1 q h1 h2, fun q hq => by
      rcases List.mem_append.mp hq with h | h
      · exact hS.2.2 q h
      · exact hF _ (hL q h)⟩ T' rfl X'
  exact ⟨t2, st t2 a1, b1⟩
theorem th_call {E0 : String} (hr : vx_Run p l e R s m args below meth c H locs cells slots 1 6 (F0 m pc ls st0) rest (noQ av) (thX E0) (fun _ => False))
    (kx : ∀ (ce : Cell) (q9 : Addr) (H1 : Heap), H.size ≤ H1.size → (∀ q : Nat, q < H.size → H1[q]? = H[q]?) → H1[q9]? = some ce → ce.vm = .none → s.vm.findClass E0 = some ce.cls → vx_W p l e R s m args below meth c H1 locs (cells + 1) (slots + 6) Q (F0 m pc ls rest) q9) : W p l e R s m args below meth c H locs cells slots Q (F0 m pc ls st0) := by
  intro T hT X
  rcases hr T hT X with ⟨v, st₀, t, T', L, h0, X', hL, e1, e2, hq, st⟩ | ⟨q, st₀, t, T', L, E, ce, h0, X', hL, e1, e2, ⟨rfl, hz, hk⟩, hce, hcv, hcl, st⟩
  · exact hq.elim
  · rw [h0] at hz hk
    obtain ⟨t2, a1, b1⟩ := kx ce q T'.heap (by rw [e1]; exact hz) (fun q h1 => by rw [e1]; exact hk q h1) (by rw [e1]; exact hce) hcv hcl T' rfl (Stand.forget X' (fun q h => (hL q h).elim))
    exact ⟨t2, st.trans a1, b1⟩
/-- a helper's start -/
def hpPc (D : va_G) (cl : List vw_C) (ws : va_W) (tys : List (ClassId × FieldType)) (sz : Nat) (av : List Value) : Array Value → State → Prop := va_Pc av (fun U => U.heap.size = sz ∧ va_P D cl ws U.heap ∧ va_K D cl tys U ∧ va_D (fun _ => True) ws ∧ thB U ∧ thN U)
theorem hp_blind {sz : Nat} {av : List Value} : FrameBlind (hpPc D cl ws tys sz av) := fun a U g mk q => by
  obtain ⟨q0, q1, qP, qK, qD, qT, qN⟩ := q
  exact ⟨q0, q1, qP, va_K.moved (u := U) (U := U.calling g mk a) (Vm.Alike.refl U.vm) qK, qD, thB_moved (s := U) (U := U.calling g mk a) (State.WarmedH.refl U) (fun _ _ => rfl) qT, thN_moved (s := U) (U := U.calling g mk a) (State.WarmedH.refl U) qN⟩
theorem h_of {y : MethodName} {wk wk' : List Cond} {rm : Room} {sz : Nat} {av : List Value} {ov : Option Value} {maxL : Nat} {ret : Option FieldType} {hh : List (Nat × Nat × Nat × Nat)} {own : String} (hy : plainName y.cls = true) (ho : y.cls = own) (hw : wk = Cond.codeWith y cc maxL ret hh :: wk') (hfit : (lg_sl av).length ≤ maxL)
    (body : ∀ (p : Program) (e : Env) (s : State) (m : MethodId) (below : List Frame) (meth : Method) (c : Code) (A : Nat → Prop), s.heap.size = sz → va_A ws sz = A → p.tables.exec = Jvm.exec → c.code = cc → meth.sig.returnType = ret → c.maxLocals = maxL → (∀ w ∈ wk, w.before av.toArray s = true) → s.vm.findClass own = some m.cls → meth.locks = false → c.exceptionTable.toList = tableOf hh → va_P D cl ws s.heap → va_K D cl tys s → va_D A ws → (∀ q, s.heap.size ≤ q → A q) → va_S A s.heap s.heap [] → thB s → thN s →
      ∀ ls : Array Slot, lv_has ls maxL (lv_args 0 av) → W p l e rm s m av.toArray below meth c s.heap [] 0 0 (MQ below (wrQ D cl ws' ov A) av.toArray s 1 6 A) (F0 m 0 ls [])) : Met l y wk rm (hpPc D cl ws tys sz av) (wrQ D cl ws' ov (va_A ws sz)) 1 6 (va_A ws sz) := by
  refine va_MetW (cc := cc) (maxL := maxL) (ret := ret) (hh := hh) hy hw ?_
  intro p e s m args below meth c s₁ B hml hv
  obtain ⟨rfl, hsz, hP, hK, hD0, hT, hN⟩ := hv
  have hl := lv_entry av (n := maxL) hfit
  rw [lg_entry_eq]
  generalize (lg_sl av ++ List.replicate (maxL - (lg_sl av).length) Slot.unset).toArray = ls at hl ⊢
  have hts := atoms_spec (ws := wk) B.pre
  have htab := vx_table (x := y) (hh := hh) B (hts _ (by rw [hw]; exact List.mem_cons_self))
  exact body p e s m below meth c _ hsz rfl B.exec B.bytes B.returns hml hts (ho ▸ findClass_of_methodNamed B.named) B.notSynchronized htab hP hK hD0.self (fun q h => Or.inr (by omega)) va_S.rf hT hN ls hl
theorem h_iret {v : Int32} (hexec : p.tables.exec = Jvm.exec) (hb : c.code = cc) (hr : meth.sig.returnType = some .int) (hlocks : meth.locks = false) (hP : va_P D cl ws' H) (hS : va_S A s.heap H locs) (hdg : decode cc pc = .ok (.ireturn, 1)) : W p l e R s m args below meth c H locs 1 6 (MQ below (wrQ D cl ws' (some (.int v)) A) args s 1 6 A) (F0 m pc ls [.int v]) :=
  W.iret hexec hb hr (fun t ht _ => ⟨rfl, by rw [ht]; exact hP, hS.F ht⟩) hS.2.2 hdg hlocks
end HR
