def R_law : String := "RenameRowsLaw"
def lw_P (b : Addr) (xs : List Int32) (args : Array Value) (s : State) : Prop := args = #[.ref b] ∧ s.IntsAt b xs ∧ xs.length ≤ 2051 ∧ (Jvm.Cond.and given_1 narrow_1).before args s = true
def lw_Q (_ : Array Value) (s : State) (o : Outcome) (t : State) : Prop := o = .returned (some (.int 1)) ∧ Framed s o t [] 601024 7293000
def lw_Z (below : List Frame) (a : Array Value) (s : State) : State → Prop := fun t => ∃ o, t.status = .running ∧ Ended t below o ∧ lw_Q a s o t
/-- the law's own end, with 1 on the stack, nothing written that was there before, its room as the claim has it -/
theorem lw_ret {p : Program} {l : Launch} {e : Env} {s : State} {m : MethodId} {below : List Frame} {meth : Method} {c : Code} {b : Nat} (hx : p.tables.exec = Jvm.exec) (hb : c.code = code) (hr : meth.sig.returnType = ret) (hlocks : meth.locks = false) {pc : Nat} {H : Heap} {ls : Array Slot} (hdg : decode code pc = .ok (.ireturn, 1)) : W p l e room_1 s m #[Value.ref b] below meth c H [] 601024 7293000 (lw_Z below #[Value.ref b] s) (F0 m pc ls [.int 1]) := by
  intro T hT X
  obtain ⟨fs, hret, hrun, hended, hW, hframe⟩ := X.leave (v := some (.int 1)) (hlocks := hlocks) (fun h => by rw [hr] at h; cases h)
  have hmeth' : T.vm.method? m = some meth := X.method'
  refine ⟨T.setFrames fs, ?_, .returned (some (.int 1)), hrun, hended, rfl, ⟨_, rfl⟩, hW, hframe⟩
  jvm_step X.here [X.here.top, hx, hb, hdg, hmeth', hr, ret, narrow_b1]
  (try refine ⟨rfl, ?_⟩); (try refine ⟨rfl, ?_⟩)
  first | (intro acts; rw [hret _ acts rfl rfl rfl]) | rw [hret _ _ rfl rfl rfl]
  exact Steps.refl _
/-- what holds at the law's entry: the machine, the code, the tables' words (any of lw_tbl by 'hts w (by decide +kernel)'), the script of L ints xs at the cell b, what the Statement gives of the start (any of its parts by flat_of_before) -/
def lw_At (p : Program) (s : State) (m : MethodId) (meth : Method) (c : Code) (b L : Nat) (xs : Nat → Int32) : Prop :=
  p.tables.exec = Jvm.exec ∧ c.code = code ∧ meth.sig.returnType = ret ∧ c.maxLocals = 7 ∧ s.vm.findClass R_law = some m.cls ∧ (∀ w ∈ lw_tbl, w.before #[Value.ref b] s = true) ∧ va_X b L xs s s.heap ∧ b < s.heap.size ∧ meth.locks = false ∧ (Jvm.Cond.and given_1 narrow_1).before #[Value.ref b] s = true
/-! my own: the law's loop -/
theorem and15 (y : Int32) : ∃ j, j < 16 ∧ y &&& nI 15 = nI j := by
  refine ⟨y.toBitVec.toNat % 2 ^ 4, Nat.mod_lt _ (by decide), ?_⟩
  exact pk_and y 4 (by decide)
theorem exit_iff {L i : Nat} (hL : L ≤ 2051) (hi : i ≤ 5000) : (nI L - nI 4 < nI i) ↔ L < i + 4 := by
  by_cases c1 : 4 ≤ L
  · rw [nI_sub c1, nI_ltI (by omega) (by omega)]; omega
  · have key : (nI L - nI 4).toInt < 0 := by
      match L, c1 with
      | 0, _ => decide
      | 1, _ => decide
      | 2, _ => decide
      | 3, _ => decide
      | _ + 4, q => omega
    rw [Int32.lt_iff_toInt_lt, nI_toInt (by omega)]
    exact ⟨fun _ => by omega, fun _ => by omega⟩
set_option maxHeartbeats 4000000 in
set_option maxRecDepth 100000 in
theorem lw_body {p : Program} {l : Launch} {e : Env} {s : State} {m : MethodId} {below : List Frame} {meth : Method} {c : Code} {dC : Nat → ClassId} {dI : Nat → Nat → Nat} {cs : ClassId × ClassId} {c3 : ClassId} {a bb : Nat → Nat} {o b L : Nat} {xs : Nat → Int32} (C0 : lwX l p s m meth c (dC, dI) cs c3 b L xs) {H : Heap} {locs : List Loc} {Q : State → Prop} {ls : Array Slot} {k0 : Nat} (hi : 3 + 4 * k0 + 4 ≤ L) (S0 : lwS s (dC, dI) cs c3 a bb o k0 H locs) (hl : lv_has ls 7 [(0, .ref b), (1, .ref (a 0)), (2, .ref (bb 0)), (3, .ref o), (4, .int (nI (3 + 4 * k0)))])
    (kk : ∀ (H : Heap) (locs : List Loc) (ls : Array Slot), lwS s (dC, dI) cs c3 a bb o (k0 + 1) H locs → lv_has ls 7 [(0, .ref b), (1, .ref (a 0)), (2, .ref (bb 0)), (3, .ref o), (4, .int (nI (3 + 4 * k0)))] → W p l e room_1 s m #[Value.ref b] below meth c H locs (50 + k0 + 1) (2000 + 6 * k0 + 6) Q (F0 m 1030 ls [])) : W p l e room_1 s m #[Value.ref b] below meth c H locs (50 + k0) (2000 + 6 * k0) Q (F0 m 62 ls []) := by
  have C1 := C0
  have S1 := S0
  obtain ⟨hlt, hx, hb, hml, hown, hts, hX, hbl, hK, hT, hN, hL⟩ := C0
  obtain ⟨n, f, g, h, z, r, hP, hD, hS⟩ := S0
  have hbA : ¬ newA s b := fun q => absurd hbl (Nat.not_lt.mpr q)
  refine lv_aload_n hx hb dL_law_62 rfl (lv_at hl 0 rfl) ?_
  refine lv_iload hx hb dL_law_63 (lv_at hl 4 rfl) ?_
  refine la_sld hx hb hX hbl hbA hS (j := 3 + 4 * k0) (by omega) hL dL_law_65 ?_
  refine lv_bipush (v := nI 15) hx hb dL_law_66 (by decide) ?_
  refine lv_iand hx hb dL_law_68 ?_
  obtain ⟨j, hj, ej⟩ := and15 (xs (3 + 4 * k0))
  refine tp_eq ej ?_
  match j, hj with
  | 0, _ => exact lv_tableIn (x := nI 0) (off := 79) (tgt := 148) hx hb dL_law_69 (by decide) (by decide) (by decide) (by decide) (cs_dispatch C1 hi S1 hl kk)
  | 1, _ => exact lv_tableIn (x := nI 1) (off := 159) (tgt := 228) hx hb dL_law_69 (by decide) (by decide) (by decide) (by decide) (cs_move C1 hi S1 hl kk)
  | 2, _ => exact lv_tableIn (x := nI 2) (off := 227) (tgt := 296) hx hb dL_law_69 (by decide) (by decide) (by decide) (by decide) (cs_port C1 hi S1 hl kk)
  | 3, _ => exact lv_tableIn (x := nI 3) (off := 295) (tgt := 364) hx hb dL_law_69 (by decide) (by decide) (by decide) (by decide) (cs_select C1 hi S1 hl kk)
  | 4, _ => exact lv_tableIn (x := nI 4) (off := 351) (tgt := 420) hx hb dL_law_69 (by decide) (by decide) (by decide) (by decide) (cs_selected C1 hi S1 hl kk)
  | 5, _ => exact lv_tableIn (x := nI 5) (off := 407) (tgt := 476) hx hb dL_law_69 (by decide) (by decide) (by decide) (by decide) (cs_end C1 hi S1 hl kk)
  | 6, _ => exact lv_tableIn (x := nI 6) (off := 463) (tgt := 532) hx hb dL_law_69 (by decide) (by decide) (by decide) (by decide) (cs_commit C1 hi S1 hl kk)
  | 7, _ => exact lv_tableIn (x := nI 7) (off := 519) (tgt := 588) hx hb dL_law_69 (by decide) (by decide) (by decide) (by decide) (cs_branch C1 hi S1 hl kk)
  | 8, _ => exact lv_tableIn (x := nI 8) (off := 532) (tgt := 601) hx hb dL_law_69 (by decide) (by decide) (by decide) (by decide) (cs_right C1 hi S1 hl kk)
  | 9, _ => exact lv_tableIn (x := nI 9) (off := 588) (tgt := 657) hx hb dL_law_69 (by decide) (by decide) (by decide) (by decide) (cs_wrong C1 hi S1 hl kk)
  | 10, _ => exact lv_tableIn (x := nI 10) (off := 644) (tgt := 713) hx hb dL_law_69 (by decide) (by decide) (by decide) (by decide) (cs_name C1 hi S1 hl kk)
  | 11, _ => exact lv_tableIn (x := nI 11) (off := 700) (tgt := 769) hx hb dL_law_69 (by decide) (by decide) (by decide) (by decide) (cs_sure C1 hi S1 hl kk)
  | 12, _ => exact lv_tableIn (x := nI 12) (off := 756) (tgt := 825) hx hb dL_law_69 (by decide) (by decide) (by decide) (by decide) (cs_shares C1 hi S1 hl kk)
  | 13, _ => exact lv_tableIn (x := nI 13) (off := 812) (tgt := 881) hx hb dL_law_69 (by decide) (by decide) (by decide) (by decide) (cs_queue C1 hi S1 hl kk)
  | 14, _ => exact lv_tableIn (x := nI 14) (off := 868) (tgt := 937) hx hb dL_law_69 (by decide) (by decide) (by decide) (by decide) (cs_row C1 hi S1 hl kk)
  | 15, _ => exact lv_tableIn (x := nI 15) (off := 936) (tgt := 1005) hx hb dL_law_69 (by decide) (by decide) (by decide) (by decide) (cs_count C1 hi S1 hl kk)
  | _ + 16, q => omega
set_option maxHeartbeats 4000000 in
set_option maxRecDepth 100000 in
theorem lw_top {p : Program} {l : Launch} {e : Env} {s : State} {m : MethodId} {below : List Frame} {meth : Method} {c : Code} {dC : Nat → ClassId} {dI : Nat → Nat → Nat} {cs : ClassId × ClassId} {c3 : ClassId} {a bb : Nat → Nat} {o b L : Nat} {xs : Nat → Int32} (C0 : lwX l p s m meth c (dC, dI) cs c3 b L xs) (hr : meth.sig.returnType = ret) (hlocks : meth.locks = false) {H : Heap} {locs : List Loc} {ls : Array Slot} {k0 : Nat} (hk2 : 4 * k0 ≤ L + 4) (S0 : lwS s (dC, dI) cs c3 a bb o k0 H locs) (hl : lv_has ls 7 [(0, .ref b), (1, .ref (a 0)), (2, .ref (bb 0)), (3, .ref o), (4, .int (nI (3 + 4 * k0)))])
    (kk : 3 + 4 * k0 + 4 ≤ L → W p l e room_1 s m #[Value.ref b] below meth c H locs (50 + k0) (2000 + 6 * k0) (lw_Z below #[Value.ref b] s) (F0 m 62 ls [])) : W p l e room_1 s m #[Value.ref b] below meth c H locs (50 + k0) (2000 + 6 * k0) (lw_Z below #[Value.ref b] s) (F0 m 53 ls []) := by
  obtain ⟨hlt, hx, hb, hml, hown, hts, hX, hbl, hK, hT, hN, hL⟩ := C0
  obtain ⟨n, f, g, h, z, r, hP, hD, hS⟩ := S0
  have hbA : ¬ newA s b := fun q => absurd hbl (Nat.not_lt.mpr q)
  refine lv_iload hx hb dL_law_53 (lv_at hl 4 rfl) ?_
  refine lv_aload_n hx hb dL_law_55 rfl (lv_at hl 0 rfl) ?_
  refine va_slen hx hb hX hbl hbA hS dL_law_56 ?_
  refine lv_iconst (v := nI 4) hx hb dL_law_57 (by decide) ?_
  refine lv_isub hx hb dL_law_58 ?_
  refine lv_icmp_gt (tgt := 1036) hx hb dL_law_59 (by decide) (fun q => ?_) (fun q => ?_)
  · refine lv_iconst (v := 1) hx hb dL_law_1036 (by decide) ?_
    refine va_forget (fun q hq => hS.2.2 q hq) ?_
    refine W.widen (k := 601024) (n := 7293000) (by omega) (by omega) ?_
    exact lw_ret hx hb hr hlocks dL_law_1037
  · have q2 : ¬ L < 3 + 4 * k0 + 4 := fun w => q ((exit_iff hL (by omega)).mpr w)
    exact kk (by omega)
set_option maxHeartbeats 4000000 in
set_option maxRecDepth 100000 in
theorem lw_loop {p : Program} {l : Launch} {e : Env} {s : State} {m : MethodId} {below : List Frame} {meth : Method} {c : Code} {dC : Nat → ClassId} {dI : Nat → Nat → Nat} {cs : ClassId × ClassId} {c3 : ClassId} {a bb : Nat → Nat} {o b L : Nat} {xs : Nat → Int32} (C0 : lwX l p s m meth c (dC, dI) cs c3 b L xs) (hr : meth.sig.returnType = ret) (hlocks : meth.locks = false) : ∀ (K k0 : Nat) (H : Heap) (locs : List Loc) (ls : Array Slot), L < 3 + 4 * (k0 + K) + 4 → 4 * k0 ≤ L + 4 → lwS s (dC, dI) cs c3 a bb o k0 H locs → lv_has ls 7 [(0, .ref b), (1, .ref (a 0)), (2, .ref (bb 0)), (3, .ref o), (4, .int (nI (3 + 4 * k0)))] → W p l e room_1 s m #[Value.ref b] below meth c H locs (50 + k0) (2000 + 6 * k0) (lw_Z below #[Value.ref b] s) (F0 m 53 ls []) := by
  intro K
  induction K with
  | zero =>
    intro k0 H locs ls hk hk2 S0 hl
    exact lw_top C0 hr hlocks hk2 S0 hl (fun hi => absurd hi (by omega))
  | succ K ih =>
    intro k0 H locs ls hk hk2 S0 hl
    refine lw_top C0 hr hlocks hk2 S0 hl (fun hi => ?_)
    refine lw_body C0 hi S0 hl (fun H locs ls S1 hl => ?_)
    have hx := C0.2.1
    have hb := C0.2.2.1
    refine lv_iinc (v := nI (3 + 4 * (k0 + 1))) (lv' := [(4, .int (nI (3 + 4 * (k0 + 1)))), (0, .ref b), (1, .ref (a 0)), (2, .ref (bb 0)), (3, .ref o)]) hx hb dL_law_1030 hl (k := 4) rfl ?_ (by decide) rfl (fun ls hl => ?_)
    · show nI (3 + 4 * k0) + nI 4 = nI (3 + 4 * (k0 + 1))
      rw [nI_add]
      congr 1
    refine lv_goto (tgt := 53) hx hb dL_law_1033 (by decide) ?_
    exact W.widen (k := 50 + (k0 + 1)) (n := 2000 + 6 * (k0 + 1)) (by omega) (by omega) (ih (k0 + 1) H locs ls (by omega) (by omega) S1 (lv_sub hl [1, 2, 3, 4, 0] rfl))
