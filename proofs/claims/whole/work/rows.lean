section
-- ===== PART A: goes FIRST, ahead of the names: the tables' words, and 'selects' of the private methods out of them =====
/-- a private method of a class that the tables say can be made, by its rows of tables_1 -/
def lw_okq (q : MethodName × Nat) : Prop := (q.1.cls ≠ "java/lang/invoke/MethodHandle" ∧ q.1.cls ≠ "java/lang/invoke/VarHandle") ∧ Cond.instantiable q.1.cls q.2 ∈ tables_1 ∧ Cond.privateMethod q.1 ∈ tables_1 ∧ Cond.instanceMethod q.1 ∈ tables_1
theorem lw_p0 : lw_okq (⟨"RenameRows$Marks", "turnOf", "(I)I"⟩, 3) := ⟨⟨by decide +kernel, by decide +kernel⟩, List.mem_of_getElem? (i := 87) (by decide +kernel), List.mem_of_getElem? (i := 147) (by decide +kernel), List.mem_of_getElem? (i := 148) (by decide +kernel)⟩
theorem lw_p1 : lw_okq (⟨"RenameRows", "isRegisterOrNone", "(I)Z"⟩, 9) := ⟨⟨by decide +kernel, by decide +kernel⟩, List.mem_of_getElem? (i := 15) (by decide +kernel), List.mem_of_getElem? (i := 194) (by decide +kernel), List.mem_of_getElem? (i := 195) (by decide +kernel)⟩
theorem lw_p2 : lw_okq (⟨"RenameRows", "isRegister", "(I)Z"⟩, 9) := ⟨⟨by decide +kernel, by decide +kernel⟩, List.mem_of_getElem? (i := 15) (by decide +kernel), List.mem_of_getElem? (i := 198) (by decide +kernel), List.mem_of_getElem? (i := 199) (by decide +kernel)⟩
theorem lw_p3 : lw_okq (⟨"java/lang/Throwable", "fillInStackTrace", "(I)Ljava/lang/Throwable;"⟩, 6) := ⟨⟨by decide +kernel, by decide +kernel⟩, List.mem_of_getElem? (i := 242) (by decide +kernel), List.mem_of_getElem? (i := 240) (by decide +kernel), List.mem_of_getElem? (i := 241) (by decide +kernel)⟩
theorem lw_p4 : lw_okq (⟨"RenameRows", "currentName", "(I)I"⟩, 9) := ⟨⟨by decide +kernel, by decide +kernel⟩, List.mem_of_getElem? (i := 15) (by decide +kernel), List.mem_of_getElem? (i := 279) (by decide +kernel), List.mem_of_getElem? (i := 280) (by decide +kernel)⟩
theorem lw_p5 : lw_okq (⟨"RenameRows$Names", "slotOf", "(I)I"⟩, 5) := ⟨⟨by decide +kernel, by decide +kernel⟩, List.mem_of_getElem? (i := 26) (by decide +kernel), List.mem_of_getElem? (i := 287) (by decide +kernel), List.mem_of_getElem? (i := 288) (by decide +kernel)⟩
theorem lw_p6 : lw_okq (⟨"RenameRows", "appendRow", "(IIIII)I"⟩, 9) := ⟨⟨by decide +kernel, by decide +kernel⟩, List.mem_of_getElem? (i := 15) (by decide +kernel), List.mem_of_getElem? (i := 291) (by decide +kernel), List.mem_of_getElem? (i := 292) (by decide +kernel)⟩
theorem lw_p7 : lw_okq (⟨"RenameRows$Ring", "ageOf", "(I)I"⟩, 10) := ⟨⟨by decide +kernel, by decide +kernel⟩, List.mem_of_getElem? (i := 50) (by decide +kernel), List.mem_of_getElem? (i := 342) (by decide +kernel), List.mem_of_getElem? (i := 343) (by decide +kernel)⟩
theorem lw_p8 : lw_okq (⟨"RenameRows", "oldestAbleFor", "(I)I"⟩, 9) := ⟨⟨by decide +kernel, by decide +kernel⟩, List.mem_of_getElem? (i := 15) (by decide +kernel), List.mem_of_getElem? (i := 394) (by decide +kernel), List.mem_of_getElem? (i := 395) (by decide +kernel)⟩
theorem lw_p9 : lw_okq (⟨"RenameRows", "isAble", "(I)Z"⟩, 9) := ⟨⟨by decide +kernel, by decide +kernel⟩, List.mem_of_getElem? (i := 15) (by decide +kernel), List.mem_of_getElem? (i := 399) (by decide +kernel), List.mem_of_getElem? (i := 400) (by decide +kernel)⟩
theorem lw_p10 : lw_okq (⟨"RenameRows", "countAble", "()I"⟩, 9) := ⟨⟨by decide +kernel, by decide +kernel⟩, List.mem_of_getElem? (i := 15) (by decide +kernel), List.mem_of_getElem? (i := 434) (by decide +kernel), List.mem_of_getElem? (i := 435) (by decide +kernel)⟩
theorem lw_p11 : lw_okq (⟨"RenameRows", "rowsBeforeOldestMark", "()I"⟩, 9) := ⟨⟨by decide +kernel, by decide +kernel⟩, List.mem_of_getElem? (i := 15) (by decide +kernel), List.mem_of_getElem? (i := 454) (by decide +kernel), List.mem_of_getElem? (i := 455) (by decide +kernel)⟩
theorem lw_p12 : lw_okq (⟨"RenameRows", "finishOldest", "()V"⟩, 9) := ⟨⟨by decide +kernel, by decide +kernel⟩, List.mem_of_getElem? (i := 15) (by decide +kernel), List.mem_of_getElem? (i := 473) (by decide +kernel), List.mem_of_getElem? (i := 474) (by decide +kernel)⟩
theorem lw_p13 : lw_okq (⟨"RenameRows", "takeBackLast", "()V"⟩, 9) := ⟨⟨by decide +kernel, by decide +kernel⟩, List.mem_of_getElem? (i := 15) (by decide +kernel), List.mem_of_getElem? (i := 515) (by decide +kernel), List.mem_of_getElem? (i := 516) (by decide +kernel)⟩
theorem lw_p14 : lw_okq (⟨"RenameRowsModel", "isRegister", "(I)Z"⟩, 29) := ⟨⟨by decide +kernel, by decide +kernel⟩, List.mem_of_getElem? (i := 584) (by decide +kernel), List.mem_of_getElem? (i := 689) (by decide +kernel), List.mem_of_getElem? (i := 690) (by decide +kernel)⟩
theorem lw_p15 : lw_okq (⟨"RenameRowsModel", "throwing", "(ZZZ)Z"⟩, 29) := ⟨⟨by decide +kernel, by decide +kernel⟩, List.mem_of_getElem? (i := 584) (by decide +kernel), List.mem_of_getElem? (i := 693) (by decide +kernel), List.mem_of_getElem? (i := 694) (by decide +kernel)⟩
def lw_privs_1 : List (MethodName × Nat) := [(⟨"RenameRows$Marks", "turnOf", "(I)I"⟩, 3), (⟨"RenameRows", "isRegisterOrNone", "(I)Z"⟩, 9), (⟨"RenameRows", "isRegister", "(I)Z"⟩, 9), (⟨"java/lang/Throwable", "fillInStackTrace", "(I)Ljava/lang/Throwable;"⟩, 6), (⟨"RenameRows", "currentName", "(I)I"⟩, 9), (⟨"RenameRows$Names", "slotOf", "(I)I"⟩, 5), (⟨"RenameRows", "appendRow", "(IIIII)I"⟩, 9), (⟨"RenameRows$Ring", "ageOf", "(I)I"⟩, 10), (⟨"RenameRows", "oldestAbleFor", "(I)I"⟩, 9), (⟨"RenameRows", "isAble", "(I)Z"⟩, 9), (⟨"RenameRows", "countAble", "()I"⟩, 9), (⟨"RenameRows", "rowsBeforeOldestMark", "()I"⟩, 9), (⟨"RenameRows", "finishOldest", "()V"⟩, 9), (⟨"RenameRows", "takeBackLast", "()V"⟩, 9), (⟨"RenameRowsModel", "isRegister", "(I)Z"⟩, 29), (⟨"RenameRowsModel", "throwing", "(ZZZ)Z"⟩, 29)]
theorem lw_r1 : ∀ q ∈ lw_privs_1, lw_okq q := List.forall_mem_cons.mpr ⟨lw_p0, List.forall_mem_cons.mpr ⟨lw_p1, List.forall_mem_cons.mpr ⟨lw_p2, List.forall_mem_cons.mpr ⟨lw_p3, List.forall_mem_cons.mpr ⟨lw_p4, List.forall_mem_cons.mpr ⟨lw_p5, List.forall_mem_cons.mpr ⟨lw_p6, List.forall_mem_cons.mpr ⟨lw_p7, List.forall_mem_cons.mpr ⟨lw_p8, List.forall_mem_cons.mpr ⟨lw_p9, List.forall_mem_cons.mpr ⟨lw_p10, List.forall_mem_cons.mpr ⟨lw_p11, List.forall_mem_cons.mpr ⟨lw_p12, List.forall_mem_cons.mpr ⟨lw_p13, List.forall_mem_cons.mpr ⟨lw_p14, List.forall_mem_cons.mpr ⟨lw_p15, fun _ h => absurd h List.not_mem_nil⟩⟩⟩⟩⟩⟩⟩⟩⟩⟩⟩⟩⟩⟩⟩⟩
theorem lw_p16 : lw_okq (⟨"RenameRowsModel", "takeName", "()I"⟩, 29) := ⟨⟨by decide +kernel, by decide +kernel⟩, List.mem_of_getElem? (i := 584) (by decide +kernel), List.mem_of_getElem? (i := 697) (by decide +kernel), List.mem_of_getElem? (i := 698) (by decide +kernel)⟩
theorem lw_p17 : lw_okq (⟨"RenameRowsModel", "add", "(IIIII)I"⟩, 29) := ⟨⟨by decide +kernel, by decide +kernel⟩, List.mem_of_getElem? (i := 584) (by decide +kernel), List.mem_of_getElem? (i := 701) (by decide +kernel), List.mem_of_getElem? (i := 702) (by decide +kernel)⟩
theorem lw_p18 : lw_okq (⟨"RenameRowsModel", "placeOf", "(I)I"⟩, 29) := ⟨⟨by decide +kernel, by decide +kernel⟩, List.mem_of_getElem? (i := 584) (by decide +kernel), List.mem_of_getElem? (i := 705) (by decide +kernel), List.mem_of_getElem? (i := 706) (by decide +kernel)⟩
theorem lw_p19 : lw_okq (⟨"RenameRowsModel", "isPlace", "(I)Z"⟩, 29) := ⟨⟨by decide +kernel, by decide +kernel⟩, List.mem_of_getElem? (i := 584) (by decide +kernel), List.mem_of_getElem? (i := 717) (by decide +kernel), List.mem_of_getElem? (i := 718) (by decide +kernel)⟩
theorem lw_p20 : lw_okq (⟨"RenameRowsModel", "at", "(I)I"⟩, 29) := ⟨⟨by decide +kernel, by decide +kernel⟩, List.mem_of_getElem? (i := 584) (by decide +kernel), List.mem_of_getElem? (i := 721) (by decide +kernel), List.mem_of_getElem? (i := 722) (by decide +kernel)⟩
theorem lw_p21 : lw_okq (⟨"RenameRowsModel", "mayGo", "(I)Z"⟩, 29) := ⟨⟨by decide +kernel, by decide +kernel⟩, List.mem_of_getElem? (i := 584) (by decide +kernel), List.mem_of_getElem? (i := 729) (by decide +kernel), List.mem_of_getElem? (i := 730) (by decide +kernel)⟩
theorem lw_p22 : lw_okq (⟨"RenameRowsModel", "isReady", "(I)Z"⟩, 29) := ⟨⟨by decide +kernel, by decide +kernel⟩, List.mem_of_getElem? (i := 584) (by decide +kernel), List.mem_of_getElem? (i := 733) (by decide +kernel), List.mem_of_getElem? (i := 734) (by decide +kernel)⟩
theorem lw_p23 : lw_okq (⟨"RenameRowsModel", "mayGoAll", "()I"⟩, 29) := ⟨⟨by decide +kernel, by decide +kernel⟩, List.mem_of_getElem? (i := 584) (by decide +kernel), List.mem_of_getElem? (i := 745) (by decide +kernel), List.mem_of_getElem? (i := 746) (by decide +kernel)⟩
theorem lw_p24 : lw_okq (⟨"RenameRowsModel", "bound", "()I"⟩, 29) := ⟨⟨by decide +kernel, by decide +kernel⟩, List.mem_of_getElem? (i := 584) (by decide +kernel), List.mem_of_getElem? (i := 753) (by decide +kernel), List.mem_of_getElem? (i := 754) (by decide +kernel)⟩
theorem lw_p25 : lw_okq (⟨"RenameRowsModel", "giveBack", "(I)V"⟩, 29) := ⟨⟨by decide +kernel, by decide +kernel⟩, List.mem_of_getElem? (i := 584) (by decide +kernel), List.mem_of_getElem? (i := 758) (by decide +kernel), List.mem_of_getElem? (i := 759) (by decide +kernel)⟩
theorem lw_p26 : lw_okq (⟨"RenameRowsModel", "shift", "()V"⟩, 29) := ⟨⟨by decide +kernel, by decide +kernel⟩, List.mem_of_getElem? (i := 584) (by decide +kernel), List.mem_of_getElem? (i := 762) (by decide +kernel), List.mem_of_getElem? (i := 763) (by decide +kernel)⟩
theorem lw_p27 : lw_okq (⟨"RenameRowsModel", "isMark", "(I)Z"⟩, 29) := ⟨⟨by decide +kernel, by decide +kernel⟩, List.mem_of_getElem? (i := 584) (by decide +kernel), List.mem_of_getElem? (i := 774) (by decide +kernel), List.mem_of_getElem? (i := 775) (by decide +kernel)⟩
theorem lw_p28 : lw_okq (⟨"RenameRowsModel", "drop", "(I)V"⟩, 29) := ⟨⟨by decide +kernel, by decide +kernel⟩, List.mem_of_getElem? (i := 584) (by decide +kernel), List.mem_of_getElem? (i := 778) (by decide +kernel), List.mem_of_getElem? (i := 779) (by decide +kernel)⟩
def lw_privs_2 : List (MethodName × Nat) := [(⟨"RenameRowsModel", "takeName", "()I"⟩, 29), (⟨"RenameRowsModel", "add", "(IIIII)I"⟩, 29), (⟨"RenameRowsModel", "placeOf", "(I)I"⟩, 29), (⟨"RenameRowsModel", "isPlace", "(I)Z"⟩, 29), (⟨"RenameRowsModel", "at", "(I)I"⟩, 29), (⟨"RenameRowsModel", "mayGo", "(I)Z"⟩, 29), (⟨"RenameRowsModel", "isReady", "(I)Z"⟩, 29), (⟨"RenameRowsModel", "mayGoAll", "()I"⟩, 29), (⟨"RenameRowsModel", "bound", "()I"⟩, 29), (⟨"RenameRowsModel", "giveBack", "(I)V"⟩, 29), (⟨"RenameRowsModel", "shift", "()V"⟩, 29), (⟨"RenameRowsModel", "isMark", "(I)Z"⟩, 29), (⟨"RenameRowsModel", "drop", "(I)V"⟩, 29)]
theorem lw_r2 : ∀ q ∈ lw_privs_2, lw_okq q := List.forall_mem_cons.mpr ⟨lw_p16, List.forall_mem_cons.mpr ⟨lw_p17, List.forall_mem_cons.mpr ⟨lw_p18, List.forall_mem_cons.mpr ⟨lw_p19, List.forall_mem_cons.mpr ⟨lw_p20, List.forall_mem_cons.mpr ⟨lw_p21, List.forall_mem_cons.mpr ⟨lw_p22, List.forall_mem_cons.mpr ⟨lw_p23, List.forall_mem_cons.mpr ⟨lw_p24, List.forall_mem_cons.mpr ⟨lw_p25, List.forall_mem_cons.mpr ⟨lw_p26, List.forall_mem_cons.mpr ⟨lw_p27, List.forall_mem_cons.mpr ⟨lw_p28, fun _ h => absurd h List.not_mem_nil⟩⟩⟩⟩⟩⟩⟩⟩⟩⟩⟩⟩⟩
def lw_privs : List (MethodName × Nat) := lw_privs_1 ++ (lw_privs_2)
def lw_tbl : List Cond := k2_sels lw_privs ++ tables_1
theorem lw_privs_ok : ∀ q ∈ lw_privs, lw_okq q := by
  show ∀ q ∈ lw_privs_1 ++ (lw_privs_2), lw_okq q
  exact List.forall_mem_append.mpr ⟨lw_r1, lw_r2⟩
-- ===== end of PART A; then your names; then what follows =====
end
section
/-! my own: an exception caught behind rows that name other kinds, where the names in the table may be resolved here for the first time -/
section CT
/-- a row of the table that lets the thrown thing by -/
def ct_by (pl : Platform) (s0 : State) (d : ClassId) (pc : Nat) (th : ClassId) (z : ExceptionTableEntry) : Prop :=
  covers z pc = false ∨ (z.catchType ≠ 0 ∧ ∃ k, s0.vm.ClassLinks pl d z.catchType k ∧ s0.vm.assignable th k = false)
/-- one row that covers the pc and whose name links: it takes the thing, or the search goes on, over tables that note the name -/
theorem ct_row {Q : Handler → Pre} {E : CtlPost} {e : Env} {d : Bool} {acts : List Action} {S : State} {f : JFrame} {a : Addr} {z : ExceptionTableEntry} {t : List ExceptionTableEntry} {k : ClassId} {ce : Cell}
    (hz : covers z f.pc = true) (h0 : z.catchType ≠ 0) (hl : S.vm.ClassLinks e.platform f.method.cls z.catchType k) (hce : S.heap[a]? = some ce) (hob : ∀ j, ce.vm ≠ .statics j)
    (hk : ∃ j, S.vm.classes[ce.cls]? = some j) (hc : ∃ j, S.vm.classes[k]? = some j) (b : Bool) (hb : S.vm.assignable ce.cls k = b) :
    wp (findHandler.go f a (z :: t)) Q E e d acts S ↔
      (match b with
        | true => Q (.found z.handlerPc) d acts (S.setVm (S.vm.noted f.method.cls z.catchType (.cls k)))
        | false => wp (findHandler.go f a t) Q E e d acts (S.setVm (S.vm.noted f.method.cls z.catchType (.cls k)))) := by
  simp only [covers] at hz
  obtain ⟨g1, g2⟩ := (resolveClass_links e.toSetting hl).op (op := VmOp.resolveClass f.method.cls z.catchType) rfl
  have al : S.vm.Alike (S.vm.noted f.method.cls z.catchType (.cls k)) := (Vm.Alike.refl S.vm).noted _ _ _
  obtain ⟨j1, q1⟩ := hk
  obtain ⟨j2, q2⟩ := hc
  obtain ⟨i1, p1, -⟩ := al.2.2 _ _ q1
  obtain ⟨i2, p2, -⟩ := al.2.2 _ _ q2
  have hb' : (S.vm.noted f.method.cls z.catchType (.cls k)).assignable ce.cls k = b := by rw [al.assignable]; exact hb
  cases b <;> simp [findHandler.go, hz, h0, g1, g2, hce, hob, p1, p2, hb', VmOp.dirties, VmOp.acts]
theorem ct_go {e : Env} {s0 : State} {f : JFrame} {a : Addr} {ce : Cell} (hob : ∀ j, ce.vm ≠ .statics j) (hk : ∃ j, s0.vm.classes[ce.cls]? = some j) (z : ExceptionTableEntry) (t : List ExceptionTableEntry)
    (hz : covers z f.pc = true) (h0 : z.catchType ≠ 0) {k : ClassId} (hl : s0.vm.ClassLinks e.platform f.method.cls z.catchType k) (hfit : s0.vm.assignable ce.cls k = true) :
    ∀ (pre : List ExceptionTableEntry) (S : State), s0.WarmedH S.vm → S.heap[a]? = some ce → (∀ y ∈ pre, ct_by e.platform s0 f.method.cls f.pc ce.cls y) →
      ∃ v, s0.WarmedH v ∧ ∀ (Q : Handler → Pre) (E : CtlPost) (d : Bool) (acts : List Action), wp (findHandler.go f a (pre ++ z :: t)) Q E e d acts S ↔ Q (.found z.handlerPc) d acts (S.setVm v) := by
  obtain ⟨j, hj⟩ := hk
  intro pre
  induction pre with
  | nil =>
    intro S hW hce _
    obtain ⟨j', hj', -⟩ := hW.alike.2.2 _ _ hj
    obtain ⟨dk, _, _, kt, hd, _, _, _, _, hkt, _, hopen⟩ := hl.here
    obtain ⟨i, hi, -⟩ := hW.alike.2.2 _ _ hkt
    exact ⟨_, hW.noted hd hopen (State.rightAt_cls hl), fun Q E d acts => ct_row hz h0 (hW.classLinks hl) hce hob ⟨j', hj'⟩ ⟨i, hi⟩ true (by rw [hW.alike.assignable]; exact hfit)⟩
  | cons y ys ih =>
    intro S hW hce hp
    have hys : ∀ w ∈ ys, ct_by e.platform s0 f.method.cls f.pc ce.cls w := fun w hw => hp w (List.mem_cons_of_mem _ hw)
    obtain ⟨j', hj', -⟩ := hW.alike.2.2 _ _ hj
    cases hc : covers y f.pc with
    | false =>
      obtain ⟨v, hv, hq⟩ := ih S hW hce hys
      exact ⟨v, hv, fun Q E d acts => by rw [List.cons_append, W.findHandler_go_skip hc]; exact hq Q E d acts⟩
    | true =>
      rcases hp y (List.mem_cons_self ..) with h | ⟨hy0, k1, hl1, hno⟩
      · rw [h] at hc; cases hc
      · obtain ⟨dk, _, _, kt, hd, _, _, _, _, hkt, _, hopen⟩ := hl1.here
        obtain ⟨i, hi, -⟩ := hW.alike.2.2 _ _ hkt
        obtain ⟨v, hv, hq⟩ := ih (S.setVm (S.vm.noted f.method.cls y.catchType (.cls k1))) (hW.noted hd hopen (State.rightAt_cls hl1)) hce hys
        exact ⟨v, hv, fun Q E d acts => by
          rw [List.cons_append, ct_row hc hy0 (hW.classLinks hl1) hce hob ⟨j', hj'⟩ ⟨i, hi⟩ false (by rw [hW.alike.assignable]; exact hno)]
          exact hq Q E d acts⟩
variable {p : Program} {l : Launch} {e : Env} {R : Room} {s : State} {m : MethodId} {args : Array Value} {below : List Frame} {meth : Method} {c : Code} {T : State} {locs : List Loc} {cells slots : Nat}
/-- the walk goes on at the handler, the thrown thing alone on the stack -/
theorem ct_caught (X : Stand p l e R s m args below meth c T locs cells slots) (a : Addr) {g : JFrame} (hg : g.method = m) {ce : Cell} (hce : T.heap[a]? = some ce) (hob : ce.vm.isStatics = false)
    (hk : ∃ j, s.vm.classes[ce.cls]? = some j) (pre : List ExceptionTableEntry) (z : ExceptionTableEntry) (t : List ExceptionTableEntry) (hsplit : c.exceptionTable.toList = pre ++ z :: t)
    (hpass : ∀ y ∈ pre, ct_by e.platform s m.cls g.pc ce.cls y) (hz : covers z g.pc = true) (h0 : z.catchType ≠ 0) {k : ClassId} (hl : s.vm.ClassLinks e.platform m.cls z.catchType k) (hfit : s.vm.assignable ce.cls k = true) :
    ∃ v, Stand p l e R s m args below meth c (T.setVm v) locs cells slots ∧ Steps p.tables e below ((T.setTop g).pushFrame (.throwing a)) ((T.setVm v).setTop { g with pc := z.handlerPc, stack := [.ref a] }) := by
  subst hg
  obtain ⟨v, hv, hq⟩ := ct_go (e := e) (s0 := s) (f := g) (a := a) (ce := ce) (VmData.ne_statics_of hob) hk z t hz h0 hl hfit pre ((T.setTop g).pushFrame (.throwing a)) X.warmed hce hpass
  refine ⟨v, X.noted hv, ?_⟩
  obtain ⟨hgo, hw⟩ := X.here.throwing a (g := g)
  refine Steps.head hgo hw ?_
  have key : (stepThrowing e ((T.setTop g).pushFrame (.throwing a)) a (.java g :: T.frames.tail)).1 = (((T.setTop g).pushFrame (.throwing a)).setVm v).setFrames (.java { g with pc := z.handlerPc, stack := [.ref a] } :: T.frames.tail) := by
    simp only [stepThrowing, searchFrame, vmDo]
    generalize hr : Sem.go _ e false [] ((T.setTop g).pushFrame (.throwing a)) = res
    obtain ⟨as, rfl, ha⟩ := Sem.eq_ok_of hr (a := Handler.found z.handlerPc) (s' := ((T.setTop g).pushFrame (.throwing a)).setVm v) (acts' := [])
      (by simp [W.findHandler_eq (s := (T.setTop g).pushFrame (.throwing a)) (f := g) X.method' X.code, hsplit, hq])
    rfl
  rw [stepThread_throwing (frames_entered X.here.top _), key]
  obtain ⟨g1, hfr⟩ := X.frames_eq
  have hfr' : (T.setVm v).frames = .java g1 :: below := hfr
  rw [State.setTop_of_frames _ hfr', State.pushFrame, State.setTop_of_frames _ hfr, hfr]
  have e1 : ∀ (u : State) (F G : List Frame), ((u.setFrames F).setVm v).setFrames G = (u.setVm v).setFrames G := fun u F G => by
    show ((u.setVm v).setFrames F).setFrames G = (u.setVm v).setFrames G
    rw [State.setFrames_setFrames]
  have e2 : ∀ (u : State) (F F' G : List Frame), (((u.setFrames F).setFrames F').setVm v).setFrames G = (u.setVm v).setFrames G := fun u F F' G => by
    rw [State.setFrames_setFrames, e1]
  rw [e2, List.tail_cons]
  exact Steps.refl _
end CT
/-! ===== BEGIN words of one list among another's, by their places ===== -/
theorem goodIn_r {big : List Cond} (ws : List Cond) (ps : List Nat) (hp : ws = ps.filterMap (fun i => big[i]?)) (h : ws.all goodWord = true) : GoodIn big ws := by
  intro w hw
  have h1 := List.all_eq_true.mp h w hw
  rw [hp] at hw
  obtain ⟨i, -, hi⟩ := List.mem_filterMap.mp hw
  have hm : w ∈ big := by first | exact List.mem_of_getElem? hi | exact List.getElem?_mem hi
  exact ⟨hm, good_of_word h1⟩
theorem goodIn_app {big a b : List Cond} (ha : GoodIn big a) (hb : GoodIn big b) : GoodIn big (a ++ b) := fun w h => (List.mem_append.mp h).elim (ha w) (hb w)
theorem goodIn_ca {big a b : List Cond} {c : Cond} (ha : GoodIn big (c :: a)) (hb : GoodIn big b) : GoodIn big (c :: (a ++ b)) := fun w h => (List.mem_cons.mp h).elim (fun e => ha w (List.mem_cons.mpr (Or.inl e))) (fun h => (List.mem_append.mp h).elim (fun h => ha w (List.mem_cons.mpr (Or.inr h))) (hb w))
theorem goodIn_sub {big ws : List Cond} (hm : ∀ w ∈ ws, w ∈ big) (h : ws.all goodWord = true) : GoodIn big ws := fun w hw => ⟨hm w hw, good_of_word (List.all_eq_true.mp h w hw)⟩
/-! ===== END ===== -/

/-! ===== BEGIN exceptions that leave a method, and their catching by the caller (launches without stack traces) ===== -/
section VXA
/-! The laws vx_back, vx_callV, vx_callS, vx_callSW, vx_throw0, vx_throwS follow proofs of the library, with one case more: JvmDerived/Free/Laws.lean (Back.of_free), Shelf42/LK1.lean (callV, callS), Shelf/KitTraced.lean (throwNew0V, throwNewS). -/
/-- where a method has thrown q: the class by its name, the cell, what was written, the world -/
def vx_T (XC : String → State → State → Prop) (st : State) (q : Addr) (t : State) (mc ms : Nat) (free : Addr → Prop) : Prop :=
  ∃ (E : String) (ce : Cell) (L : List Loc), XC E st t ∧ t.heap[q]? = some ce ∧ ce.vm = .none ∧ st.vm.findClass E = some ce.cls ∧ st.WarmedH t.vm ∧ st.sameButNew ({ t with vm := st.vm } : State) L mc ms ∧ ∀ z ∈ L, free z.base
def vx_Q (Qc : Array Value → State → Outcome → State → Prop) (XC : String → State → State → Prop) (mc ms : Nat) (free : Addr → Prop) : Array Value → State → Outcome → State → Prop := fun a st o t =>
  (Qc a st o t ∧ ∃ L, FrameEnd st o t L mc ms ∧ ∀ q ∈ L, free q.base) ∨ ∃ q, o = .threw q ∧ vx_T XC st q t mc ms free
/-- a callee that returns or throws -/
def vx_Met (l : Launch) (y : MethodName) (ws : List Cond) (rm : Room) (Pc : Array Value → State → Prop) (Qc : Array Value → State → Outcome → State → Prop) (XC : String → State → State → Prop) (mc ms : Nat) (free : Addr → Prop) : Prop :=
  MetFree l y (headSpec ws rm) Pc (fun _ _ _ _ _ => True) (vx_Q Qc XC mc ms free)
def vx_Post (XC : String → State → State → Prop) (mc ms : Nat) (free : Addr → Prop) : Pt → Array Value → Addr → Pt → Prop := fun A a q B =>
  ∃ (g : JFrame) (mk : MethodId) (t : State) (L : List Loc) (E : String) (ce : Cell), B.U.heap = t.heap ∧ B.U.vm = t.vm ∧ XC E (A.U.calling g mk a) t ∧ t.heap[q]? = some ce ∧ ce.vm = .none ∧ A.U.vm.findClass E = some ce.cls ∧ B.locs = A.locs ++ L ∧ (∀ z ∈ L, free z.base) ∧ B.cells = A.cells + mc ∧ B.slots = A.slots + ms
def vx_Back (l : Launch) (R : Room) (p : Program) (e : Env) (below : List Frame) (s : State) (sargs : Array Value) (y : MethodName) (len W9 : Nat)
    (Pre : Pt → Array Value → Prop) (Post : Pt → Array Value → Option Value → Pt → Prop) (PostX : Pt → Array Value → Addr → Pt → Prop) : Prop :=
  ∀ (m : MethodId) (meth : Method) (c : Code) (A : Pt) (g : JFrame) (ig : Instr) (mk : MethodId) (a : Array Value),
    Stand p l e R s m sargs below meth c A.U A.locs A.cells A.slots → g.method = m → g.locals.size = c.maxLocals → decode c.code g.pc = .ok (ig, len) →
    2 * g.monitorRoom + (g.stack.map fun v => v.category).sum ≤ W9 → A.U.methodNamed? y = some mk → Pre A a →
    (∃ (v : Option Value) (B : Pt), Stand p l e R s m sargs below meth c B.U B.locs B.cells B.slots ∧ Post A a v B ∧
      Steps p.tables e below (doInvoke e (A.U.setTop g) [] mk a).1 (B.U.setTop { g with pc := g.pc + len, stack := v.toList ++ g.stack })) ∨
    (∃ (q : Addr) (B : Pt), Stand p l e R s m sargs below meth c B.U B.locs B.cells B.slots ∧ PostX A a q B ∧
      Steps p.tables e below (doInvoke e (A.U.setTop g) [] mk a).1 ((B.U.setTop g).pushFrame (.throwing q)))
section Payer
variable {l : Launch} {R : Room} {p : Program} {e : Env} {below : List Frame} {s : State} {sargs : Array Value} {y : MethodName} {len W9 : Nat}
theorem vx_back {ws : List Cond} {rm : Room} {Pc : Array Value → State → Prop} {Qc : Array Value → State → Outcome → State → Prop} {XC : String → State → State → Prop} {mc ms : Nat} {free : Addr → Prop} {bytes : ByteArray} {maxL : Nat} {ret : Option FieldType}
    (hM : vx_Met l y ws rm Pc Qc XC mc ms free) (hblind : FrameBlind Pc) (hrc : rm.cells = mc) (hrs : rm.slots = ms)
    (hframes : rm.frames + 1 ≤ R.frames) (hlocals : W9 + (maxL + 11) + rm.locals ≤ R.locals)
    (hws : ∀ w ∈ ws, ∀ a' U, s.WarmedH U.vm → w.before a' U = true) (hcode : Cond.code y bytes maxL ret ∈ ws) (hinit : ∀ a' U, s.WarmedH U.vm → (Cond.initialized y.cls).before a' U = true) :
    vx_Back l R p e below s sargs y len W9 (PreOf R mc ms Pc) (PostOf Qc mc ms free) (vx_Post XC mc ms free) := by
  intro m meth c A g ig mk a X hg hsize hdg hW hn hp
  have h1 : (headSpec ws rm).pre.before a A.U = true := atoms_intro fun w hw => hws w hw _ _ X.warmed
  have h2 : (Cond.code y bytes maxL ret).before a A.U = true := hws _ hcode _ _ X.warmed
  have h3 : (Cond.initialized y.cls).before a A.U = true := hinit _ _ X.warmed
  have h4 : A.cells + (headSpec ws rm).room.cells ≤ R.cells := by rw [show (headSpec ws rm).room.cells = mc from hrc]; exact hp.1
  have h5 : A.slots + (headSpec ws rm).room.slots ≤ R.slots := by rw [show (headSpec ws rm).room.slots = ms from hrs]; exact hp.2.1
  have hPc : Pc a (A.U.calling g mk a) := hblind _ _ _ _ hp.2.2
  obtain ⟨U, Ls, c0, s0⟩ := A
  dsimp only [Pt.U, Pt.locs, Pt.cells, Pt.slots] at h1 h2 h3 h4 h5 X hn hPc ⊢
  obtain ⟨methY, cY, hmY, hcY, -, hlY, -, -, -, -⟩ := Cond.code_spec hn h2
  obtain ⟨kY, hkY, -⟩ := className_of_methodNamed hn
  have hinitY : kY.init = .initialized := Cond.initialized_spec (findClass_of_methodNamed hn) hkY h3
  have h : At U g.method c below := by rw [hg]; exact X.here
  have hlocals9 : W9 + (maxL + 11) + (headSpec ws rm).room.locals ≤ R.locals := hlocals
  have happ : (headSpec ws rm).appliesLoose y e.platform (U.calling g mk a) = true :=
    Spec.appliesLoose_calling (g := g) h hdg hn hkY hinitY
      (X.room_calling (g := g) (R' := (headSpec ws rm).room) hsize hmY hcY hframes (by rw [hlY]; omega) h4 h5) h1
  obtain ⟨mid, hmid⟩ := h.above
  have hfr : (U.setTop g).frames = (.java g :: mid) ++ below := by rw [State.frames_setTop' g h.top, hmid]; rfl
  obtain ⟨o, s₂, hsteps, -, hend, hq⟩ := Steps.callFree hM p X.admits X.cas X.clock (acts := []) hfr happ hPc trivial
  have hq' : vx_Q Qc XC mc ms free a (U.calling g mk a) o s₂ := hq
  rw [State.frames_setTop' g h.top] at hend
  obtain ⟨g₀, hg0⟩ := Option.isSome_iff_exists.mp h.top
  obtain ⟨r, hr⟩ := State.topJava?_eq_some.mp hg0
  have hr' : (({ U with heap := s₂.heap, slotsUsed := s₂.slotsUsed } : State).setVm s₂.vm).frames = .java g₀ :: r := hr
  rcases hq' with ⟨hqc, L, hfe, hL⟩ | ⟨q, rfl, E, ce, L, hx, hce, hcv, hcl, hW₂, hsm, hL⟩
  · obtain ⟨⟨v, rfl⟩, hW₂, e2, q2, q3, q4, q5, q6⟩ := id hfe
    have e3 : s₂ = ({ (U.calling g mk a).setFrames s₂.frames with heap := s₂.heap, slotsUsed := s₂.slotsUsed } : State).setVm s₂.vm := by
      have : s₂ = ({ s₂ with vm := (U.calling g mk a).vm } : State).setVm s₂.vm := rfl
      rw [e2] at this
      exact this
    obtain ⟨c₂, i₂, len₂, hc₂, hd₂, hf₂⟩ := hend
    have hW' : U.WarmedH s₂.vm := hW₂
    have hcc : c₂ = c := by
      have h1 : s₂.code? g.method = U.code? g.method := by
        rw [State.code?_eq, State.code?_eq, hW'.alike.method?]
      exact Option.some.inj (hc₂.symm.trans (h1.trans h.code))
    subst hcc
    have hlen : len₂ = len := by rw [hdg] at hd₂; cases hd₂; rfl
    subst hlen
    have hs₂ : s₂ = (({ U with heap := s₂.heap, slotsUsed := s₂.slotsUsed } : State).setVm s₂.vm).setTop { g with pc := g.pc + len₂, stack := v.toList ++ g.stack } := by
      refine e3.trans ?_
      rw [hf₂, State.calling_eq h.top, State.setFrames_setFrames, State.setTop_of_frames _ hr', hr]
      rfl
    have hsame : U.sameButNew ({ U with heap := s₂.heap, slotsUsed := s₂.slotsUsed } : State) L mc ms := by
      refine ⟨?_, q2, q3, q4, q5, q6⟩
      obtain ⟨t, ht, -⟩ := State.frames_cons hr
      show ({ U with heap := s₂.heap, slotsUsed := s₂.slotsUsed } : State) = { U.setFrames U.frames with heap := s₂.heap, slotsUsed := s₂.slotsUsed }
      rw [State.setFrames_self ht]
    subst hg
    refine Or.inl ⟨v, ⟨(({ U with heap := s₂.heap, slotsUsed := s₂.slotsUsed } : State).setVm s₂.vm), Ls ++ L, c0 + mc, s0 + ms⟩,
      ⟨X.admits, X.cas, X.clock, X.frames, X.room, X.hears, X.method, X.code, (X.here.setHeapUsed s₂.heap s₂.slotsUsed).setVm hW'.alike, X.tail, State.WarmedH.trans X.warmed hW', X.limits, X.bytes, X.same.trans (hsame.setVm s.vm)⟩,
      ⟨g, mk, s₂, L, rfl, rfl, hqc, rfl, hL, rfl, rfl⟩, ?_⟩
    show Steps p.tables e below _ ((({ U with heap := s₂.heap, slotsUsed := s₂.slotsUsed } : State).setVm s₂.vm).setTop { g with pc := g.pc + len₂, stack := v.toList ++ g.stack })
    rw [← hs₂]
    exact hsteps
  · obtain ⟨e2, q2, q3, q4, q5, q6⟩ := id hsm
    have e3 : s₂ = ({ (U.calling g mk a).setFrames s₂.frames with heap := s₂.heap, slotsUsed := s₂.slotsUsed } : State).setVm s₂.vm := by
      have : s₂ = ({ s₂ with vm := (U.calling g mk a).vm } : State).setVm s₂.vm := rfl
      rw [e2] at this
      exact this
    have hf₂ : s₂.frames = .throwing q :: .java g :: U.frames.tail := hend
    have hW' : U.WarmedH s₂.vm := hW₂
    have hs₂ : s₂ = ((({ U with heap := s₂.heap, slotsUsed := s₂.slotsUsed } : State).setVm s₂.vm).setTop g).pushFrame (.throwing q) := by
      refine e3.trans ?_
      rw [hf₂, State.calling_eq h.top, State.setFrames_setFrames, State.pushFrame, State.frames_setTop _ hr', State.setTop_of_frames _ hr', State.setFrames_setFrames, hr]
      rfl
    have hsame : U.sameButNew ({ U with heap := s₂.heap, slotsUsed := s₂.slotsUsed } : State) L mc ms := by
      refine ⟨?_, q2, q3, q4, q5, q6⟩
      obtain ⟨t, ht, -⟩ := State.frames_cons hr
      show ({ U with heap := s₂.heap, slotsUsed := s₂.slotsUsed } : State) = { U.setFrames U.frames with heap := s₂.heap, slotsUsed := s₂.slotsUsed }
      rw [State.setFrames_self ht]
    subst hg
    refine Or.inr ⟨q, ⟨(({ U with heap := s₂.heap, slotsUsed := s₂.slotsUsed } : State).setVm s₂.vm), Ls ++ L, c0 + mc, s0 + ms⟩,
      ⟨X.admits, X.cas, X.clock, X.frames, X.room, X.hears, X.method, X.code, (X.here.setHeapUsed s₂.heap s₂.slotsUsed).setVm hW'.alike, X.tail, State.WarmedH.trans X.warmed hW', X.limits, X.bytes, X.same.trans (hsame.setVm s.vm)⟩,
      ⟨g, mk, s₂, L, E, ce, rfl, rfl, hx, hce, hcv, hcl, rfl, hL, rfl, rfl⟩, ?_⟩
    show Steps p.tables e below _ (((({ U with heap := s₂.heap, slotsUsed := s₂.slotsUsed } : State).setVm s₂.vm).setTop g).pushFrame (.throwing q))
    rw [← hs₂]
    exact hsteps
end Payer
section Calls
variable {p : Program} {l : Launch} {e : Env} {R : Room} {s : State} {m : MethodId} {args : Array Value} {below : List Frame} {meth : Method} {c : Code} {T : State} {locs : List Loc} {cells slots : Nat}
theorem vx_callV (X : Stand p l e R s m args below meth c T locs cells slots) (hexec : p.tables.exec = Jvm.exec) {own C : String} {index : Nat} {y : MethodName} {bytes : ByteArray} {maxL : Nat} {ret : Option FieldType}
    (hown : s.vm.findClass own = some m.cls) (hlink : (Cond.methodLink own index y).before args s = true) (hinst : (Cond.instanceMethod y).before args s = true) (hsel : (Cond.selects C y y).before args s = true)
    (hcode : (Cond.code y bytes maxL ret).before args s = true) (hy : y.cls ≠ "java/lang/invoke/MethodHandle" ∧ y.cls ≠ "java/lang/invoke/VarHandle")
    {W9 : Nat} {Pre : Pt → Array Value → Prop} {Post : Pt → Array Value → Option Value → Pt → Prop} {PostX : Pt → Array Value → Addr → Pt → Prop} (hK : vx_Back l R p e below s args y 3 W9 Pre Post PostX)
    {b : Addr} {cellB : Cell} (hcell : T.heap[b]? = some cellB) (hobj : cellB.vm.isStatics = false) (hcls : s.vm.findClass C = some cellB.cls)
    {g : JFrame} (hg : g.method = m) (hsize : g.locals.size = c.maxLocals) {argsL rest : List Value} (hlen : ∀ sig, parseMethodDescriptor y.desc = some sig → argsL.length = sig.parameters.length)
    (hstack : g.stack = argsL.reverse ++ .ref b :: rest) (hW : 2 * g.monitorRoom + (rest.map fun v => v.category).sum ≤ W9) (hdg : decode c.code g.pc = .ok (.invokevirtual index, 3))
    (hpre : ∀ vm₁, s.WarmedH vm₁ → Pre ⟨T.setVm vm₁, locs, cells, slots⟩ (Value.ref b :: argsL).toArray) :
    (∃ (v : Option Value) (vm₁ : Vm) (B : Pt), s.WarmedH vm₁ ∧ Stand p l e R s m args below meth c B.U B.locs B.cells B.slots ∧ Post ⟨T.setVm vm₁, locs, cells, slots⟩ (Value.ref b :: argsL).toArray v B ∧
      ∀ target, Steps p.tables e below (B.U.setTop { g with pc := g.pc + 3, stack := v.toList ++ rest }) target → Steps p.tables e below (T.setTop g) target) ∨
    (∃ (q : Addr) (vm₁ : Vm) (B : Pt), s.WarmedH vm₁ ∧ Stand p l e R s m args below meth c B.U B.locs B.cells B.slots ∧ PostX ⟨T.setVm vm₁, locs, cells, slots⟩ (Value.ref b :: argsL).toArray q B ∧
      Steps p.tables e below (T.setTop g) ((B.U.setTop { g with stack := rest }).pushFrame (.throwing q))) := by
  obtain ⟨mk, methM, hnamed, hmethM, hstM, habM⟩ := Cond.instanceMethod_spec hinst
  obtain ⟨methM', cM, hmethM', -, -, -, -, -, -, hsigM⟩ := Cond.code_spec hnamed hcode
  cases hmethM.symm.trans hmethM'
  obtain ⟨c2, r2, m2, q1, q2, q3, q4, kP, hkP, hkPi⟩ := Cond.selects_spec hsel
  cases hcls.symm.trans q1
  cases (State.methodFound?_of_named hnamed hy).symm.trans q2
  cases hnamed.symm.trans q3
  have hselP : selectMethod e.platform s.vm cellB.cls mk = .method mk := by rw [Launch.admits_selectMethod X.admits]; exact q4
  obtain ⟨vm₁, X₁, hstep₁⟩ := X.invokevirtual hexec hown hlink hnamed hmethM hstM hkP hkPi hy (a := b) (cell := cellB) hcell
    (fun z h => by rw [h] at hobj; cases hobj) hselP hmethM habM hkP hkPi (g := g) hg (argsL := argsL) (rest := rest) (hlen _ hsigM) hstack hdg
  rcases hK m meth c ⟨T.setVm vm₁, locs, cells, slots⟩ { g with stack := rest } (.invokevirtual index) mk (Value.ref b :: argsL).toArray X₁ hg hsize hdg hW (X₁.named hnamed) (hpre vm₁ X₁.warmed) with ⟨v, B, X', hpost, hsteps⟩ | ⟨q, B, X', hpost, hsteps⟩
  · exact Or.inl ⟨v, vm₁, B, X₁.warmed, X', hpost, fun target h => hstep₁ _ fun acts => by rw [doInvoke_state]; exact hsteps.trans h⟩
  · exact Or.inr ⟨q, vm₁, B, X₁.warmed, X', hpost, hstep₁ _ fun acts => by rw [doInvoke_state]; exact hsteps⟩
theorem vx_callS (X : Stand p l e R s m args below meth c T locs cells slots) (hexec : p.tables.exec = Jvm.exec) {own : String} {index : Nat} {y : MethodName} {bytes : ByteArray} {maxL : Nat} {ret : Option FieldType}
    (hown : s.vm.findClass own = some m.cls) (hlink : (Cond.methodLink own index y).before args s = true) (hstat : (Cond.static y).before args s = true) (hinit : (Cond.initialized y.cls).before args s = true)
    (hcode : (Cond.code y bytes maxL ret).before args s = true) (hy : y.cls ≠ "java/lang/invoke/MethodHandle" ∧ y.cls ≠ "java/lang/invoke/VarHandle")
    {W9 : Nat} {Pre : Pt → Array Value → Prop} {Post : Pt → Array Value → Option Value → Pt → Prop} {PostX : Pt → Array Value → Addr → Pt → Prop} (hK : vx_Back l R p e below s args y 3 W9 Pre Post PostX)
    {g : JFrame} (hg : g.method = m) (hsize : g.locals.size = c.maxLocals) {argsL rest : List Value} (hlen : ∀ sig, parseMethodDescriptor y.desc = some sig → argsL.length = sig.parameters.length)
    (hstack : g.stack = argsL.reverse ++ rest) (hW : 2 * g.monitorRoom + (rest.map fun v => v.category).sum ≤ W9) (hdg : decode c.code g.pc = .ok (.invokestatic index, 3))
    (hpre : ∀ vm₁, s.WarmedH vm₁ → Pre ⟨T.setVm vm₁, locs, cells, slots⟩ argsL.toArray) :
    (∃ (v : Option Value) (vm₁ : Vm) (B : Pt), s.WarmedH vm₁ ∧ Stand p l e R s m args below meth c B.U B.locs B.cells B.slots ∧ Post ⟨T.setVm vm₁, locs, cells, slots⟩ argsL.toArray v B ∧
      ∀ target, Steps p.tables e below (B.U.setTop { g with pc := g.pc + 3, stack := v.toList ++ rest }) target → Steps p.tables e below (T.setTop g) target) ∨
    (∃ (q : Addr) (vm₁ : Vm) (B : Pt), s.WarmedH vm₁ ∧ Stand p l e R s m args below meth c B.U B.locs B.cells B.slots ∧ PostX ⟨T.setVm vm₁, locs, cells, slots⟩ argsL.toArray q B ∧
      Steps p.tables e below (T.setTop g) ((B.U.setTop { g with stack := rest }).pushFrame (.throwing q))) := by
  obtain ⟨mk, hnamed⟩ := Cond.code_named hcode
  obtain ⟨methM, cM, hmethM, -, -, -, -, -, -, hsigM⟩ := Cond.code_spec hnamed hcode
  have hstatic : methM.isStatic = true := Cond.static_spec hnamed hmethM hstat
  obtain ⟨kP, hkP, -⟩ := className_of_methodNamed hnamed
  have hinitP : kP.init = .initialized := Cond.initialized_spec (findClass_of_methodNamed hnamed) hkP hinit
  obtain ⟨vm₁, X₁, hstep₁⟩ := X.invokestatic hexec hown hlink hnamed hmethM hstatic hkP hinitP hy (g := g) hg (argsL := argsL) (rest := rest) (hlen _ hsigM) hstack hdg
  rcases hK m meth c ⟨T.setVm vm₁, locs, cells, slots⟩ { g with stack := rest } (.invokestatic index) mk argsL.toArray X₁ hg hsize hdg hW (X₁.named hnamed) (hpre vm₁ X₁.warmed) with ⟨v, B, X', hpost, hsteps⟩ | ⟨q, B, X', hpost, hsteps⟩
  · exact Or.inl ⟨v, vm₁, B, X₁.warmed, X', hpost, fun target h => hstep₁ _ fun acts => by rw [doInvoke_state]; exact hsteps.trans h⟩
  · exact Or.inr ⟨q, vm₁, B, X₁.warmed, X', hpost, hstep₁ _ fun acts => by rw [doInvoke_state]; exact hsteps⟩
end Calls
theorem vx_cls {s : State} {T : State} {vm₁ : Vm} {E : String} {k : ClassId} (hW : s.WarmedH vm₁) (h : (T.setVm vm₁).vm.findClass E = some k) : s.vm.findClass E = some k := by
  have h1 : vm₁.findClass E = some k := h
  rw [hW.alike.findClass] at h1
  exact h1
/-- the method's frame g, with q thrown over it -/
def vx_W (p : Program) (l : Launch) (e : Env) (R : Room) (s : State) (m : MethodId) (args : Array Value) (below : List Frame) (meth : Method) (c : Code) (H : Heap) (locs : List Loc) (cells slots : Nat) (Q : State → Prop) (g : JFrame) (q : Addr) : Prop :=
  ∀ T : State, T.heap = H → Stand p l e R s m args below meth c T locs cells slots → ∃ t, Steps p.tables e below ((T.setTop g).pushFrame (.throwing q)) t ∧ Q t
def vx_Run (p : Program) (l : Launch) (e : Env) (R : Room) (s : State) (m : MethodId) (args : Array Value) (below : List Frame) (meth : Method) (c : Code) (H : Heap) (locs : List Loc) (cells slots mc ms : Nat) (g : JFrame) (rest : List Value) (Qa : State → Outcome → State → Prop) (XC : String → State → State → Prop) (free : Addr → Prop) : Prop :=
  ∀ T : State, T.heap = H → Stand p l e R s m args below meth c T locs cells slots →
    (∃ (v : Option Value) (st₀ t T' : State) (L : List Loc), st₀.heap = H ∧ Stand p l e R s m args below meth c T' (locs ++ L) (cells + mc) (slots + ms) ∧ (∀ q ∈ L, free q.base) ∧ T'.heap = t.heap ∧ T'.vm = t.vm ∧ Qa st₀ (.returned v) t ∧
      Goes p e below T g T' { g with pc := g.pc + 3, stack := v.toList ++ rest }) ∨
    (∃ (q : Addr) (st₀ t T' : State) (L : List Loc) (E : String) (ce : Cell), st₀.heap = H ∧ Stand p l e R s m args below meth c T' (locs ++ L) (cells + mc) (slots + ms) ∧ (∀ z ∈ L, free z.base) ∧ T'.heap = t.heap ∧ T'.vm = t.vm ∧ XC E st₀ t ∧ t.heap[q]? = some ce ∧ ce.vm = .none ∧ s.vm.findClass E = some ce.cls ∧
      Steps p.tables e below (T.setTop g) ((T'.setTop { g with stack := rest }).pushFrame (.throwing q)))
def vx_X {S : Type} (px : S → Prop) (B : String → S → State → Prop) (A : Nat → Prop) : String → State → State → Prop := fun E st t => ∃ u : S, px u ∧ B E u t ∧ va_F A st t
section Runs
variable {p : Program} {l : Launch} {e : Env} {R : Room} {s : State} {m : MethodId} {args : Array Value} {below : List Frame} {meth : Method} {c : Code} {H : Heap} {locs : List Loc} {cells slots : Nat}
variable {y : MethodName} {bytes cc : ByteArray} {maxL nL mc ms n index : Nat} {ret : Option FieldType} {ws : List Cond} {rm : Room} {Pc : Array Value → State → Prop} {Qc : Array Value → State → Outcome → State → Prop} {XC : String → State → State → Prop} {free : Addr → Prop} {Ts : List Cond} {own C : String} {b : Addr} {As rest : List Value} {g : JFrame}
theorem vx_callBack (cb : CallB R s args own index y bytes maxL ret ws rm mc ms n) (hM : vx_Met l y ws rm Pc Qc XC mc ms free) (hbl : FrameBlind Pc) : vx_Back l R p e below s args y 3 8 (PreOf R mc ms Pc) (PostOf Qc mc ms free) (vx_Post XC mc ms free) := by
  obtain ⟨hrc, hrs, hfr, hlo, hws, hcw, -, hini, -⟩ := cb
  exact vx_back (bytes := bytes) (maxL := maxL) (ret := ret) hM hbl hrc hrs hfr hlo hws hcw (fun a' U hW => word_at hW (Or.inl (by first | rfl | simp [Cond.onTables, Cond.keeps, Cond.steady])) hini)
theorem vx_runV (S : CallFix p m c cc nL s args Ts own) (hM : vx_Met l y ws rm Pc Qc XC mc ms free) (cw : CallW R s args own C index y bytes maxL ret ws rm mc ms n) (hp : PreV s H C b Pc As)
    (hg : g.method = m) (hn : As.length = n) (hsize : g.locals.size = nL) (hstack : g.stack = As.reverse ++ .ref b :: rest) (hW : 2 * g.monitorRoom + (rest.map fun v => v.category).sum ≤ 8) (hdg : decode cc g.pc = .ok (.invokevirtual index, 3)) (hf : cells + mc ≤ R.cells ∧ slots + ms ≤ R.slots) :
    vx_Run p l e R s m args below meth c H locs cells slots mc ms g rest (Qc (Value.ref b :: As).toArray) XC free := by
  have hK : vx_Back l R p e below s args y 3 8 (PreOf R mc ms Pc) (PostOf Qc mc ms free) (vx_Post XC mc ms free) := vx_callBack cw.1 hM hp.1
  obtain ⟨⟨-, -, -, -, -, -, hcode, -, hy, hlen, hl⟩, hin, hse⟩ := cw
  obtain ⟨hx, hb, hml, ho, -⟩ := S
  obtain ⟨-, ⟨cellB, hcB, hoB, hclB⟩, hPc⟩ := hp
  intro T hT X
  rcases vx_callV X hx (C := C) (bytes := bytes) (maxL := maxL) (ret := ret) ho hl hin hse hcode hy hK (by rw [hT]; exact hcB) hoB hclB hg (hsize.trans hml.symm) (argsL := As) (rest := rest) (fun sig h => hn.trans (hlen sig h)) hstack hW (by rw [hb]; exact hdg)
    (fun vm₁ hW₁ => ⟨hf.1, hf.2, hPc (T.setVm vm₁) hT hW₁⟩) with ⟨v, vm₁, ⟨U', l2, c2, s2⟩, hW₁, X', ⟨g', mk, t, L, e1, e2, hq, h1, hL, h2, h3⟩, st⟩ | ⟨q, vm₁, ⟨U', l2, c2, s2⟩, hW₁, X', ⟨g', mk, t, L, E, ce, e1, e2, hq, hce, hcv, hcl, h1, hL, h2, h3⟩, st⟩
  · dsimp only [Pt.U, Pt.locs, Pt.cells, Pt.slots] at X' e1 e2 h1 h2 h3 st
    subst h1; subst h2; subst h3
    exact Or.inl ⟨v, (T.setVm vm₁).calling g' mk (Value.ref b :: As).toArray, t, U', L, hT, X', hL, e1, e2, hq, st⟩
  · dsimp only [Pt.U, Pt.locs, Pt.cells, Pt.slots] at X' e1 e2 h1 h2 h3 st hcl
    subst h1; subst h2; subst h3
    exact Or.inr ⟨q, (T.setVm vm₁).calling g' mk (Value.ref b :: As).toArray, t, U', L, E, ce, hT, X', hL, e1, e2, hq, hce, hcv, vx_cls hW₁ hcl, st⟩
theorem vx_runS (S : CallFix p m c cc nL s args Ts own) (hM : vx_Met l y ws rm Pc Qc XC mc ms free) (cw : CallB R s args own index y bytes maxL ret ws rm mc ms n ∧ (Cond.static y).before args s = true) (hp : PreS s H Pc As)
    (hg : g.method = m) (hn : As.length = n) (hsize : g.locals.size = nL) (hstack : g.stack = As.reverse ++ rest) (hW : 2 * g.monitorRoom + (rest.map fun v => v.category).sum ≤ 8) (hdg : decode cc g.pc = .ok (.invokestatic index, 3)) (hf : cells + mc ≤ R.cells ∧ slots + ms ≤ R.slots) :
    vx_Run p l e R s m args below meth c H locs cells slots mc ms g rest (Qc As.toArray) XC free := by
  have hK : vx_Back l R p e below s args y 3 8 (PreOf R mc ms Pc) (PostOf Qc mc ms free) (vx_Post XC mc ms free) := vx_callBack cw.1 hM hp.1
  obtain ⟨⟨-, -, -, -, -, -, hcode, hini, hy, hlen, hl⟩, hstt⟩ := cw
  obtain ⟨hx, hb, hml, ho, -⟩ := S
  intro T hT X
  rcases vx_callS X hx (bytes := bytes) (maxL := maxL) (ret := ret) ho hl hstt hini hcode hy hK hg (hsize.trans hml.symm) (argsL := As) (rest := rest) (fun sig h => hn.trans (hlen sig h)) hstack hW (by rw [hb]; exact hdg)
    (fun vm₁ hW₁ => ⟨hf.1, hf.2, hp.2 (T.setVm vm₁) hT hW₁⟩) with ⟨v, vm₁, ⟨U', l2, c2, s2⟩, hW₁, X', ⟨g', mk, t, L, e1, e2, hq, h1, hL, h2, h3⟩, st⟩ | ⟨q, vm₁, ⟨U', l2, c2, s2⟩, hW₁, X', ⟨g', mk, t, L, E, ce, e1, e2, hq, hce, hcv, hcl, h1, hL, h2, h3⟩, st⟩
  · dsimp only [Pt.U, Pt.locs, Pt.cells, Pt.slots] at X' e1 e2 h1 h2 h3 st
    subst h1; subst h2; subst h3
    exact Or.inl ⟨v, (T.setVm vm₁).calling g' mk As.toArray, t, U', L, hT, X', hL, e1, e2, hq, st⟩
  · dsimp only [Pt.U, Pt.locs, Pt.cells, Pt.slots] at X' e1 e2 h1 h2 h3 st hcl
    subst h1; subst h2; subst h3
    exact Or.inr ⟨q, (T.setVm vm₁).calling g' mk As.toArray, t, U', L, E, ce, hT, X', hL, e1, e2, hq, hce, hcv, vx_cls hW₁ hcl, st⟩
end Runs
section Rows
variable {p : Program} {l : Launch} {e : Env} {R : Room} {s : State} {m : MethodId} {args : Array Value} {below : List Frame} {meth : Method} {c : Code} {H : Heap} {locs : List Loc} {cells slots : Nat} {Q : State → Prop}
variable {mc ms : Nat} {free : Addr → Prop} {A0 A1 : Nat → Prop} {H0 : Heap} {a : Array Value} {pc : Nat} {ls : Array Slot} {st0 rest : List Value}
theorem vx_keep {st₀ t T' : State} {L : List Loc} (h0 : st₀.heap = H) (e1 : T'.heap = t.heap) (hS : va_S A0 H0 H locs) (hA : ∀ q, q < H.size → A1 q → A0 q) (hf : ∀ q, free q → A0 q) (hL : ∀ q ∈ L, free q.base) (hF : va_F A1 st₀ t) :
    H.size ≤ T'.heap.size ∧ (∀ q : Nat, q < H.size → ¬ A1 q → T'.heap[q]? = H[q]?) ∧ va_S A0 H0 T'.heap (locs ++ L) := by
  obtain ⟨hz, hk⟩ := hF
  rw [h0] at hz hk
  exact ⟨by rw [e1]; exact hz, fun q h1 h2 => by rw [e1]; exact hk q h1 h2,
    ⟨Nat.le_trans hS.1 (by rw [e1]; exact hz), fun q h1 h2 => by rw [e1, hk q (Nat.lt_of_lt_of_le h1 hS.1) (fun z => h2 (hA q (Nat.lt_of_lt_of_le h1 hS.1) z))]; exact hS.2.1 q h1 h2, fun q hq => by
      rcases List.mem_append.mp hq with h | h
      · exact hS.2.2 q h
      · exact hf _ (hL q h)⟩⟩
theorem vx_calli {S SX : Type} {post : Int32 → S → Prop} {px : SX → Prop} {B : S → State → Prop} {BX : String → SX → State → Prop} {AX : Nat → Prop} (hr : vx_Run p l e R s m args below meth c H locs cells slots mc ms (F0 m pc ls st0) rest (va_Qi post B A1 a) (vx_X px BX AX) free) (hS : va_S A0 H0 H locs) (hA : ∀ q, q < H.size → A1 q → A0 q) (hf : ∀ q, free q → A0 q) (hAX : ∀ q, q < H.size → AX q → A0 q)
    (kx : ∀ (E : String) (ce : Cell) (q9 : Addr) (u : SX) (t : State) (H1 : Heap) (locs1 : List Loc), t.heap = H1 → s.vm.Alike t.vm → px u → BX E u t → H.size ≤ H1.size → (∀ q : Nat, q < H.size → ¬ AX q → H1[q]? = H[q]?) → va_S A0 H0 H1 locs1 → H1[q9]? = some ce → ce.vm = .none → s.vm.findClass E = some ce.cls → vx_W p l e R s m args below meth c H1 locs1 (cells + mc) (slots + ms) Q (F0 m pc ls rest) q9)
    (kk : ∀ (r : Int32) (u : S) (t : State) (H1 : Heap) (locs1 : List Loc), t.heap = H1 → s.vm.Alike t.vm → post r u → B u t → H.size ≤ H1.size → (∀ q : Nat, q < H.size → ¬ A1 q → H1[q]? = H[q]?) → va_S A0 H0 H1 locs1 → W p l e R s m args below meth c H1 locs1 (cells + mc) (slots + ms) Q (F0 m (pc + 3) ls (.int r :: rest))) : W p l e R s m args below meth c H locs cells slots Q (F0 m pc ls st0) := by
  intro T hT X
  rcases hr T hT X with ⟨v, st₀, t, T', L, h0, X', hL, e1, e2, ⟨⟨r, u, hv, hp, hb⟩, hF⟩, st⟩ | ⟨q, st₀, t, T', L, E, ce, h0, X', hL, e1, e2, ⟨u, hp, hb, hF⟩, hce, hcv, hcl, st⟩
  · cases hv
    obtain ⟨k1, k2, k3⟩ := vx_keep h0 e1 hS hA hf hL hF
    obtain ⟨t2, a1, b1⟩ := kk r u t T'.heap (locs ++ L) e1.symm (by rw [← e2]; exact X'.warmed.alike) hp hb k1 k2 k3 T' rfl X'
    exact ⟨t2, st t2 a1, b1⟩
  · obtain ⟨k1, k2, k3⟩ := vx_keep h0 e1 hS hAX hf hL hF
    obtain ⟨t2, a1, b1⟩ := kx E ce q u t T'.heap (locs ++ L) e1.symm (by rw [← e2]; exact X'.warmed.alike) hp hb k1 k2 k3 (by rw [e1]; exact hce) hcv hcl T' rfl X'
    exact ⟨t2, st.trans a1, b1⟩
theorem vx_calll {S SX : Type} {post : Int64 → S → Prop} {px : SX → Prop} {B : S → State → Prop} {BX : String → SX → State → Prop} {AX : Nat → Prop} (hr : vx_Run p l e R s m args below meth c H locs cells slots mc ms (F0 m pc ls st0) rest (va_Ql post B A1 a) (vx_X px BX AX) free) (hS : va_S A0 H0 H locs) (hA : ∀ q, q < H.size → A1 q → A0 q) (hf : ∀ q, free q → A0 q) (hAX : ∀ q, q < H.size → AX q → A0 q)
    (kx : ∀ (E : String) (ce : Cell) (q9 : Addr) (u : SX) (t : State) (H1 : Heap) (locs1 : List Loc), t.heap = H1 → s.vm.Alike t.vm → px u → BX E u t → H.size ≤ H1.size → (∀ q : Nat, q < H.size → ¬ AX q → H1[q]? = H[q]?) → va_S A0 H0 H1 locs1 → H1[q9]? = some ce → ce.vm = .none → s.vm.findClass E = some ce.cls → vx_W p l e R s m args below meth c H1 locs1 (cells + mc) (slots + ms) Q (F0 m pc ls rest) q9)
    (kk : ∀ (r : Int64) (u : S) (t : State) (H1 : Heap) (locs1 : List Loc), t.heap = H1 → s.vm.Alike t.vm → post r u → B u t → H.size ≤ H1.size → (∀ q : Nat, q < H.size → ¬ A1 q → H1[q]? = H[q]?) → va_S A0 H0 H1 locs1 → W p l e R s m args below meth c H1 locs1 (cells + mc) (slots + ms) Q (F0 m (pc + 3) ls (.long r :: rest))) : W p l e R s m args below meth c H locs cells slots Q (F0 m pc ls st0) := by
  intro T hT X
  rcases hr T hT X with ⟨v, st₀, t, T', L, h0, X', hL, e1, e2, ⟨⟨r, u, hv, hp, hb⟩, hF⟩, st⟩ | ⟨q, st₀, t, T', L, E, ce, h0, X', hL, e1, e2, ⟨u, hp, hb, hF⟩, hce, hcv, hcl, st⟩
  · cases hv
    obtain ⟨k1, k2, k3⟩ := vx_keep h0 e1 hS hA hf hL hF
    obtain ⟨t2, a1, b1⟩ := kk r u t T'.heap (locs ++ L) e1.symm (by rw [← e2]; exact X'.warmed.alike) hp hb k1 k2 k3 T' rfl X'
    exact ⟨t2, st t2 a1, b1⟩
  · obtain ⟨k1, k2, k3⟩ := vx_keep h0 e1 hS hAX hf hL hF
    obtain ⟨t2, a1, b1⟩ := kx E ce q u t T'.heap (locs ++ L) e1.symm (by rw [← e2]; exact X'.warmed.alike) hp hb k1 k2 k3 (by rw [e1]; exact hce) hcv hcl T' rfl X'
    exact ⟨t2, st.trans a1, b1⟩
theorem vx_callf {S SX : Type} {post : UInt32 → S → Prop} {px : SX → Prop} {B : S → State → Prop} {BX : String → SX → State → Prop} {AX : Nat → Prop} (hr : vx_Run p l e R s m args below meth c H locs cells slots mc ms (F0 m pc ls st0) rest (va_Qf post B A1 a) (vx_X px BX AX) free) (hS : va_S A0 H0 H locs) (hA : ∀ q, q < H.size → A1 q → A0 q) (hf : ∀ q, free q → A0 q) (hAX : ∀ q, q < H.size → AX q → A0 q)
    (kx : ∀ (E : String) (ce : Cell) (q9 : Addr) (u : SX) (t : State) (H1 : Heap) (locs1 : List Loc), t.heap = H1 → s.vm.Alike t.vm → px u → BX E u t → H.size ≤ H1.size → (∀ q : Nat, q < H.size → ¬ AX q → H1[q]? = H[q]?) → va_S A0 H0 H1 locs1 → H1[q9]? = some ce → ce.vm = .none → s.vm.findClass E = some ce.cls → vx_W p l e R s m args below meth c H1 locs1 (cells + mc) (slots + ms) Q (F0 m pc ls rest) q9)
    (kk : ∀ (r : UInt32) (u : S) (t : State) (H1 : Heap) (locs1 : List Loc), t.heap = H1 → s.vm.Alike t.vm → post r u → B u t → H.size ≤ H1.size → (∀ q : Nat, q < H.size → ¬ A1 q → H1[q]? = H[q]?) → va_S A0 H0 H1 locs1 → W p l e R s m args below meth c H1 locs1 (cells + mc) (slots + ms) Q (F0 m (pc + 3) ls (.float r :: rest))) : W p l e R s m args below meth c H locs cells slots Q (F0 m pc ls st0) := by
  intro T hT X
  rcases hr T hT X with ⟨v, st₀, t, T', L, h0, X', hL, e1, e2, ⟨⟨r, u, hv, hp, hb⟩, hF⟩, st⟩ | ⟨q, st₀, t, T', L, E, ce, h0, X', hL, e1, e2, ⟨u, hp, hb, hF⟩, hce, hcv, hcl, st⟩
  · cases hv
    obtain ⟨k1, k2, k3⟩ := vx_keep h0 e1 hS hA hf hL hF
    obtain ⟨t2, a1, b1⟩ := kk r u t T'.heap (locs ++ L) e1.symm (by rw [← e2]; exact X'.warmed.alike) hp hb k1 k2 k3 T' rfl X'
    exact ⟨t2, st t2 a1, b1⟩
  · obtain ⟨k1, k2, k3⟩ := vx_keep h0 e1 hS hAX hf hL hF
    obtain ⟨t2, a1, b1⟩ := kx E ce q u t T'.heap (locs ++ L) e1.symm (by rw [← e2]; exact X'.warmed.alike) hp hb k1 k2 k3 (by rw [e1]; exact hce) hcv hcl T' rfl X'
    exact ⟨t2, st.trans a1, b1⟩
theorem vx_calld {S SX : Type} {post : UInt64 → S → Prop} {px : SX → Prop} {B : S → State → Prop} {BX : String → SX → State → Prop} {AX : Nat → Prop} (hr : vx_Run p l e R s m args below meth c H locs cells slots mc ms (F0 m pc ls st0) rest (va_Qd post B A1 a) (vx_X px BX AX) free) (hS : va_S A0 H0 H locs) (hA : ∀ q, q < H.size → A1 q → A0 q) (hf : ∀ q, free q → A0 q) (hAX : ∀ q, q < H.size → AX q → A0 q)
    (kx : ∀ (E : String) (ce : Cell) (q9 : Addr) (u : SX) (t : State) (H1 : Heap) (locs1 : List Loc), t.heap = H1 → s.vm.Alike t.vm → px u → BX E u t → H.size ≤ H1.size → (∀ q : Nat, q < H.size → ¬ AX q → H1[q]? = H[q]?) → va_S A0 H0 H1 locs1 → H1[q9]? = some ce → ce.vm = .none → s.vm.findClass E = some ce.cls → vx_W p l e R s m args below meth c H1 locs1 (cells + mc) (slots + ms) Q (F0 m pc ls rest) q9)
    (kk : ∀ (r : UInt64) (u : S) (t : State) (H1 : Heap) (locs1 : List Loc), t.heap = H1 → s.vm.Alike t.vm → post r u → B u t → H.size ≤ H1.size → (∀ q : Nat, q < H.size → ¬ A1 q → H1[q]? = H[q]?) → va_S A0 H0 H1 locs1 → W p l e R s m args below meth c H1 locs1 (cells + mc) (slots + ms) Q (F0 m (pc + 3) ls (.double r :: rest))) : W p l e R s m args below meth c H locs cells slots Q (F0 m pc ls st0) := by
  intro T hT X
  rcases hr T hT X with ⟨v, st₀, t, T', L, h0, X', hL, e1, e2, ⟨⟨r, u, hv, hp, hb⟩, hF⟩, st⟩ | ⟨q, st₀, t, T', L, E, ce, h0, X', hL, e1, e2, ⟨u, hp, hb, hF⟩, hce, hcv, hcl, st⟩
  · cases hv
    obtain ⟨k1, k2, k3⟩ := vx_keep h0 e1 hS hA hf hL hF
    obtain ⟨t2, a1, b1⟩ := kk r u t T'.heap (locs ++ L) e1.symm (by rw [← e2]; exact X'.warmed.alike) hp hb k1 k2 k3 T' rfl X'
    exact ⟨t2, st t2 a1, b1⟩
  · obtain ⟨k1, k2, k3⟩ := vx_keep h0 e1 hS hAX hf hL hF
    obtain ⟨t2, a1, b1⟩ := kx E ce q u t T'.heap (locs ++ L) e1.symm (by rw [← e2]; exact X'.warmed.alike) hp hb k1 k2 k3 (by rw [e1]; exact hce) hcv hcl T' rfl X'
    exact ⟨t2, st.trans a1, b1⟩
theorem vx_callv {S SX : Type} {post : S → Prop} {px : SX → Prop} {B : S → State → Prop} {BX : String → SX → State → Prop} {AX : Nat → Prop} (hr : vx_Run p l e R s m args below meth c H locs cells slots mc ms (F0 m pc ls st0) rest (va_Qv post B A1 a) (vx_X px BX AX) free) (hS : va_S A0 H0 H locs) (hA : ∀ q, q < H.size → A1 q → A0 q) (hf : ∀ q, free q → A0 q) (hAX : ∀ q, q < H.size → AX q → A0 q)
    (kx : ∀ (E : String) (ce : Cell) (q9 : Addr) (u : SX) (t : State) (H1 : Heap) (locs1 : List Loc), t.heap = H1 → s.vm.Alike t.vm → px u → BX E u t → H.size ≤ H1.size → (∀ q : Nat, q < H.size → ¬ AX q → H1[q]? = H[q]?) → va_S A0 H0 H1 locs1 → H1[q9]? = some ce → ce.vm = .none → s.vm.findClass E = some ce.cls → vx_W p l e R s m args below meth c H1 locs1 (cells + mc) (slots + ms) Q (F0 m pc ls rest) q9)
    (kk : ∀ (u : S) (t : State) (H1 : Heap) (locs1 : List Loc), t.heap = H1 → s.vm.Alike t.vm → post u → B u t → H.size ≤ H1.size → (∀ q : Nat, q < H.size → ¬ A1 q → H1[q]? = H[q]?) → va_S A0 H0 H1 locs1 → W p l e R s m args below meth c H1 locs1 (cells + mc) (slots + ms) Q (F0 m (pc + 3) ls (rest))) : W p l e R s m args below meth c H locs cells slots Q (F0 m pc ls st0) := by
  intro T hT X
  rcases hr T hT X with ⟨v, st₀, t, T', L, h0, X', hL, e1, e2, ⟨⟨u, hv, hp, hb⟩, hF⟩, st⟩ | ⟨q, st₀, t, T', L, E, ce, h0, X', hL, e1, e2, ⟨u, hp, hb, hF⟩, hce, hcv, hcl, st⟩
  · cases hv
    obtain ⟨k1, k2, k3⟩ := vx_keep h0 e1 hS hA hf hL hF
    obtain ⟨t2, a1, b1⟩ := kk u t T'.heap (locs ++ L) e1.symm (by rw [← e2]; exact X'.warmed.alike) hp hb k1 k2 k3 T' rfl X'
    exact ⟨t2, st t2 a1, b1⟩
  · obtain ⟨k1, k2, k3⟩ := vx_keep h0 e1 hS hAX hf hL hF
    obtain ⟨t2, a1, b1⟩ := kx E ce q u t T'.heap (locs ++ L) e1.symm (by rw [← e2]; exact X'.warmed.alike) hp hb k1 k2 k3 (by rw [e1]; exact hce) hcv hcl T' rfl X'
    exact ⟨t2, st.trans a1, b1⟩
/-- caught by the row x of this method's table; the rows ahead don't take it -/
theorem vx_catch {own name : String} {E : String} {ce : Cell} {q : Addr} (hown : s.vm.findClass own = some m.cls) (pre : List ExceptionTableEntry) (x : ExceptionTableEntry) (suf : List ExceptionTableEntry) (hsplit : c.exceptionTable.toList = pre ++ x :: suf)
    (hpass : ∀ z ∈ pre, covers z pc = false ∨ (z.catchType ≠ 0 ∧ ∃ nm : String, (Cond.classLink own z.catchType nm).before args s = true ∧ va_Nc E nm s)) (hx : covers x pc = true) (h0 : x.catchType ≠ 0)
    (hlink : (Cond.classLink own x.catchType name).before args s = true) (hcast : (Cond.castable E name).before args s = true) (hcell : H[q]? = some ce) (hv : ce.vm = .none) (hcl : s.vm.findClass E = some ce.cls)
    (kk : W p l e R s m args below meth c H locs cells slots Q (F0 m x.handlerPc ls [.ref q])) : vx_W p l e R s m args below meth c H locs cells slots Q (F0 m pc ls rest) q := by
  intro T hT X
  have hpl : e.platform.magicAccessors = ({} : Platform).magicAccessors := by rw [X.admits.platform]
  obtain ⟨c3, c4, hc3, hc4, hasg⟩ := Cond.castable_spec hcast
  cases Option.some.inj (hc3.symm.trans hcl)
  obtain ⟨c5, hc5, hcl5⟩ := Cond.classLink_spec hown hlink e.platform hpl
  cases Option.some.inj (hc4.symm.trans hc5)
  obtain ⟨vm', X', st⟩ := ct_caught X q (g := F0 m pc ls rest) rfl (by rw [hT]; exact hcell) (by rw [hv]; rfl) (by obtain ⟨k9, h9, -⟩ := Vm.findClass_spec hcl; exact ⟨k9, h9⟩) pre x suf hsplit
    (fun z hz => by
      rcases hpass z hz with h | ⟨hz0, nm, hl1, hn1⟩
      · exact Or.inl h
      · obtain ⟨c6, hc6, hcl6⟩ := Cond.classLink_spec hown hl1 e.platform hpl
        obtain ⟨a8, b8, h1, h2, h3⟩ := hn1
        cases Option.some.inj (h1.symm.trans hcl)
        cases Option.some.inj (h2.symm.trans hc6)
        exact Or.inr ⟨hz0, _, hcl6, h3⟩) hx h0 hcl5 hasg
  obtain ⟨t, a1, b1⟩ := kk (T.setVm vm') hT X'
  exact ⟨t, st.trans a1, b1⟩
end Rows
section Ends
variable {p : Program} {l : Launch} {e : Env} {R : Room} {s : State} {m : MethodId} {args : Array Value} {below : List Frame} {meth : Method} {c : Code} {H : Heap} {locs : List Loc} {cells slots : Nat} {Q : State → Prop}
variable {mc ms : Nat} {free : Addr → Prop} {A0 A1 : Nat → Prop} {H0 : Heap} {a : Array Value} {ls : Array Slot} {st0 rest : List Value}
variable {Qc : Array Value → State → Outcome → State → Prop} {XC : String → State → State → Prop}
/-- what a body that may throw owes at its end -/
def vx_MQ (below : List Frame) (Qc : Array Value → State → Outcome → State → Prop) (XC : String → State → State → Prop) (a : Array Value) (s : State) (mc ms : Nat) (free : Addr → Prop) : State → Prop := fun t =>
  ∃ o, t.status = .running ∧ Ended t below o ∧ vx_Q Qc XC mc ms free a s o t
theorem vx_ret {g : JFrame} {mc ms : Nat} (k : W p l e R s m args below meth c H locs cells slots (MQ below Qc args s mc ms free) g) : W p l e R s m args below meth c H locs cells slots (vx_MQ below Qc XC args s mc ms free) g := by
  intro T hT X
  obtain ⟨t, a1, o, b1, b2, b3, b4⟩ := k T hT X
  exact ⟨t, a1, o, b1, b2, Or.inl ⟨b3, b4⟩⟩
/-- not caught here: it goes on to the caller -/
theorem vx_widen {g : JFrame} {q : Addr} {k n : Nat} (h1 : cells ≤ k) (h2 : slots ≤ n) (kk : vx_W p l e R s m args below meth c H locs k n Q g q) : vx_W p l e R s m args below meth c H locs cells slots Q g q := fun T hT X => kk T hT (stand_widen X h1 h2)
theorem vx_out {pc : Nat} {E : String} {ce : Cell} {q : Addr} {mc ms : Nat} (hout : ∀ x ∈ c.exceptionTable.toList, covers x pc = false) (hlocks : meth.locks = false) (hcell : H[q]? = some ce) (hv : ce.vm = .none) (hcl : s.vm.findClass E = some ce.cls)
    (hx : ∀ t : State, t.heap = H → s.vm.Alike t.vm → XC E s t) (hf : ∀ z ∈ locs, free z.base) (hc : cells ≤ mc) (hs : slots ≤ ms) :
    vx_W p l e R s m args below meth c H locs cells slots (vx_MQ below Qc XC args s mc ms free) (F0 m pc ls rest) q := by
  intro T hT X
  obtain ⟨st1, hrun, hend, hW, hsm⟩ := X.leaveThrown q (g := F0 m pc ls rest) rfl rfl rfl hout hlocks
  have hcell9 : (T.setFrames (.throwing q :: below)).heap[q]? = some ce := by
    show T.heap[q]? = some ce
    rw [hT]; exact hcell
  exact ⟨_, st1, .threw q, hrun, hend, Or.inr ⟨q, rfl, E, ce, locs, hx _ hT hW.alike, hcell9, hv, hcl, hW, hsm.mono hc hs, hf⟩⟩
theorem vx_frame {U : State} {k n : Nat} (h : s.sameButNew ({ U with vm := s.vm } : State) locs k n) : s.heap.size ≤ U.heap.size ∧ ∀ q : Nat, q < s.heap.size → (∀ z ∈ locs, z.base ≠ q) → U.heap[q]? = s.heap[q]? := by
  obtain ⟨-, h2, -, -, -, h6⟩ := h
  refine ⟨h2, fun q hq hz => ?_⟩
  obtain ⟨c9, e1, e2, e3, e4⟩ := h6 q _ (Array.getElem?_eq_getElem hq)
  have hs : c9.slots = (s.heap[q]).slots := Array.ext_getElem? fun i => e4 i fun hm => hz _ hm rfl
  have h9 : c9 = s.heap[q] := by
    rw [hs] at e2
    exact e2
  have e5 : U.heap[q]? = some c9 := e1
  rw [e5, h9, Array.getElem?_eq_getElem hq]
/-- the words of a throw but the four that speak of the heap -/
def vx_no (w : Cond) : Bool := decide (w ≠ .isRef (.static Bundle.tN "UNASSIGNED_STACK" Bundle.steD)) && decide (w ≠ .isRef (.static Bundle.tN "SUPPRESSED_SENTINEL" Bundle.listD)) && decide (w ≠ .laysStatic Bundle.tN "UNASSIGNED_STACK" Bundle.steD) && decide (w ≠ .laysStatic Bundle.tN "SUPPRESSED_SENTINEL" Bundle.listD)
def vx_at0 (own : String) (ic : Nat) (X : String) (names : List String) : List Cond := (Bundle.ownAtoms0 own ic X names).filter vx_no
def vx_atS (own : String) (ic : Nat) (X : String) (names : List String) : List Cond := (Bundle.ownAtoms own ic X names).filter vx_no
/-- a word that the tables alone decide, or a good one -/
def vx_ot (w : Cond) : Bool := w.onTables || goodWord w
theorem vx_ot_at {args a' : Array Value} {s U : State} {w : Cond} (hW : s.WarmedH U.vm) (hvm : s.vm = U.vm) (hg : vx_ot w = true) (h : w.before args s = true) : w.before a' U = true := by
  simp only [vx_ot, Bool.or_eq_true] at hg
  rcases hg with hg | hg
  · exact va_tabs hg hvm h
  · exact word_at hW (good_of_word hg) h
/-- a list's words: the good ones out of the method's own list, the others by premises of their own -/
theorem vx_hat {args : Array Value} {s : State} {L B : List Cond} (h1 : ∀ w ∈ L.filter goodWord, w.before args s = true) (h2 : ∀ w ∈ L.filter (fun w => !goodWord w), w ∈ B) (h3 : ∀ w ∈ B, w.before args s = true) : ∀ w ∈ L, w.before args s = true := by
  intro w hw
  by_cases g : goodWord w = true
  · exact h1 w (List.mem_filter.mpr ⟨hw, g⟩)
  · refine h3 w (h2 w (List.mem_filter.mpr ⟨hw, ?_⟩))
    show (!goodWord w) = true
    cases hgw : goodWord w
    · rfl
    · exact absurd hgw g
theorem vx_c {args : Array Value} {s : State} {w : Cond} {B : List Cond} (h : w.before args s = true) (t : ∀ w ∈ B, w.before args s = true) : ∀ w' ∈ w :: B, w'.before args s = true := fun w' h' => (List.mem_cons.mp h').elim (fun e => by rw [e]; exact h) (t w')
theorem vx_n {args : Array Value} {s : State} : ∀ w ∈ ([] : List Cond), w.before args s = true := fun _ h => nomatch h
theorem vx_own {args : Array Value} {s : State} {L : List Cond} (h1 : ∀ w ∈ L.filter vx_no, w.before args s = true)
    (hU : (Cond.isRef (.static Bundle.tN "UNASSIGNED_STACK" Bundle.steD)).before args s = true) (hN : (Cond.isRef (.static Bundle.tN "SUPPRESSED_SENTINEL" Bundle.listD)).before args s = true)
    (lU : (Cond.laysStatic Bundle.tN "UNASSIGNED_STACK" Bundle.steD).before args s = true) (lN : (Cond.laysStatic Bundle.tN "SUPPRESSED_SENTINEL" Bundle.listD).before args s = true) : ∀ w ∈ L, w.before args s = true := by
  intro w hw
  by_cases e1 : w = .isRef (.static Bundle.tN "UNASSIGNED_STACK" Bundle.steD)
  · rw [e1]; exact hU
  · by_cases e2 : w = .isRef (.static Bundle.tN "SUPPRESSED_SENTINEL" Bundle.listD)
    · rw [e2]; exact hN
    · by_cases e3 : w = .laysStatic Bundle.tN "UNASSIGNED_STACK" Bundle.steD
      · rw [e3]; exact lU
      · by_cases e4 : w = .laysStatic Bundle.tN "SUPPRESSED_SENTINEL" Bundle.listD
        · rw [e4]; exact lN
        · exact h1 w (List.mem_filter.mpr ⟨hw, by unfold vx_no; rw [decide_eq_true e1, decide_eq_true e2, decide_eq_true e3, decide_eq_true e4]; rfl⟩)
/-- where a static field lies, its class's statics cell in H -/
def vx_L (C n d : String) (A : Nat → Prop) (U : State) (H : Heap) : Prop := ∃ (c : ClassId) (k : Class) (i : Nat) (f : Field) (a : Nat) (cell : Cell), U.vm.findClass C = some c ∧ U.fieldFound? C n d = some (c, k, i, f) ∧ f.isStatic = true ∧ k.statics = some a ∧ H[a]? = some cell ∧ cell.vm.isStatics = true ∧ cell.cls = c ∧ f.slot < cell.slots.size ∧ k.staticTypes[f.slot]? = some f.type ∧ ¬ A a
theorem vx_L.moved {C n d : String} {A : Nat → Prop} {u U : State} {H : Heap} (hvm : u.vm.Alike U.vm) (h : vx_L C n d A u H) : vx_L C n d A U H := by
  obtain ⟨c, k, i, f, a, cell, h1, h2, h3, h4, h5, h6, h7, h8, h9, h10⟩ := h
  obtain ⟨k', hi', he⟩ := State.fieldFound?_setVm hvm h2
  exact ⟨c, k', i, f, a, cell, by rw [hvm.findClass]; exact h1, hi', h3, by rw [he]; exact h4, h5, h6, h7, h8, by rw [he]; exact h9, h10⟩
theorem vx_L.kept {C n d : String} {A : Nat → Prop} {U : State} {H H1 : Heap} (h : vx_L C n d A U H) (hq : ∀ a : Nat, a < H.size → ¬ A a → H1[a]? = H[a]?) : vx_L C n d A U H1 := by
  obtain ⟨c, k, i, f, a, cell, h1, h2, h3, h4, h5, h6, h7, h8, h9, h10⟩ := h
  exact ⟨c, k, i, f, a, cell, h1, h2, h3, h4, by rw [hq a (Array.getElem?_eq_some_iff.mp h5).1 h10]; exact h5, h6, h7, h8, h9, h10⟩
theorem vx_L.narrow {C n d : String} {A B : Nat → Prop} {U : State} {H : Heap} (h : vx_L C n d A U H) (hAB : ∀ q, B q → A q) : vx_L C n d B U H := by
  obtain ⟨c, k, i, f, a, cell, h1, h2, h3, h4, h5, h6, h7, h8, h9, h10⟩ := h
  exact ⟨c, k, i, f, a, cell, h1, h2, h3, h4, h5, h6, h7, h8, h9, fun z => h10 (hAB _ z)⟩
theorem vx_L.word {C n d : String} {A : Nat → Prop} {s : State} {args : Array Value} (h : vx_L C n d A s s.heap) : (Cond.laysStatic C n d).before args s = true := by
  obtain ⟨c, k, i, f, a, cell, h1, h2, h3, h4, h5, h6, h7, h8, h9, -⟩ := h
  show (Cond.laysStatic C n d).holds args s none s [] = true
  exact Cond.laysStatic_of h1 h2 h3 h4 h5 h6 h7 h8 h9
/-- .. and what it holds: null or some reference -/
def vx_Zq (C n d : String) (A : Nat → Prop) (U : State) (H : Heap) : Prop := va_Zq C n d A U H ∧ vx_L C n d A U H
theorem vx_Zq.moved {C n d : String} {A : Nat → Prop} {u U : State} {H : Heap} (hvm : u.vm.Alike U.vm) (h : vx_Zq C n d A u H) : vx_Zq C n d A U H := ⟨va_Zq.moved hvm h.1, vx_L.moved hvm h.2⟩
theorem vx_Zq.kept {C n d : String} {A : Nat → Prop} {U : State} {H H1 : Heap} (h : vx_Zq C n d A U H) (hq : ∀ a : Nat, a < H.size → ¬ A a → H1[a]? = H[a]?) : vx_Zq C n d A U H1 := ⟨va_Zq.kept h.1 hq, vx_L.kept h.2 hq⟩
theorem vx_Zq.narrow {C n d : String} {A B : Nat → Prop} {U : State} {H : Heap} (h : vx_Zq C n d A U H) (hAB : ∀ q, B q → A q) : vx_Zq C n d B U H := ⟨va_Zq.narrow h.1 hAB, vx_L.narrow h.2 hAB⟩
theorem vx_Zqof {args : Array Value} {s : State} {C n d : String} {A : Nat → Prop} (hl : (Cond.laysStatic C n d).before args s = true) (hini : (Cond.initialized C).before args s = true) (h : (Cond.isRef (.static C n d)).before args s = true) (hA : ∀ a : Nat, a < s.heap.size → ¬ A a) : vx_Zq C n d A s s.heap := by
  refine ⟨va_Zqof hl hini h hA, ?_⟩
  obtain ⟨c, k, i, f, a, cell, h1, h2, h3, h4, h5, h6, h7, h8, h9⟩ := Cond.laysStatic_spec hl
  exact ⟨c, k, i, f, a, cell, h1, h2, h3, h4, h5, h6, h7, h8, h9, hA a (Array.getElem?_eq_some_iff.mp h5).1⟩
theorem vx_isRef {C n d : String} {v : Value} {A : Nat → Prop} {s : State} {args : Array Value} (h : va_Z C n d v A s s.heap) (hv : v.isRef = true) : (Cond.isRef (.static C n d)).before args s = true := by
  obtain ⟨cf, kf, fi, f, a, cell, h1, h2, h3, h4, h5, h6, h7, -⟩ := h
  have he : (Term.static C n d).eval args s none [] s = some v := by
    simp [Term.eval, State.fieldNamed?, h1, h2, h4, h5, h6, h7]
  simp only [Cond.before, Cond.holds, Cond.value, he]
  cases v <;> simp_all [Value.isRef]
theorem vx_isRefq {C n d : String} {A : Nat → Prop} {s : State} {args : Array Value} (h : va_Zq C n d A s s.heap) : (Cond.isRef (.static C n d)).before args s = true := by
  rcases h with h | ⟨t, h⟩
  · exact vx_isRef h rfl
  · exact vx_isRef h rfl
/-- the same frame, seen from here: as if the method were called anew in this heap -/
theorem vx_rebase {T : State} (X : Stand p l e R s m args below meth c T locs cells slots) {R' : Room} (hf : R'.frames ≤ R.frames) (hl : R'.locals ≤ R.locals) (hc : cells + R'.cells ≤ R.cells) (hs : slots + R'.slots ≤ R.slots) :
    Stand p l e R' ((T.setVm s.vm).setFrames (.invoking m args :: below)) m args below meth c T [] 0 0 := by
  have htop : (T.setVm s.vm).topJava?.isSome := X.here.top
  have hF : ((T.setVm s.vm).setFrames (.invoking m args :: below)).frames = .invoking m args :: below := State.frames_setFrames _ (State.cur_lt_of_top htop)
  obtain ⟨g₀, hg0⟩ := Option.isSome_iff_exists.mp htop
  obtain ⟨r, hr⟩ := State.topJava?_eq_some.mp hg0
  have hl9 : e.platform.stackLimits (T.setVm s.vm).me = e.platform.stackLimits s.me := X.limits
  have hb9 : (T.setVm s.vm).me.stackBytes = s.me.stackBytes := X.bytes
  refine ⟨X.admits, X.cas, X.clock, hF, ?_, X.hears, X.method, X.code, X.here, X.tail, X.warmed, ?_, ?_, ?_⟩
  · have h := X.room
    have hU : ((T.setVm s.vm).setFrames (.invoking m args :: below)).localsInUse = s.localsInUse := by
      rw [State.localsInUse_invoking hF (meth := meth) (c := c) X.method X.code, State.localsInUse_invoking X.frames X.method X.code]
    simp only [State.hasRoom, Bool.and_eq_true, decide_eq_true_eq] at h ⊢
    obtain ⟨⟨⟨⟨h1, h2, h3, h4, h5, h6⟩, h7⟩, h8⟩, h9⟩ := h
    rw [X.frames, List.length_cons] at h2 h3
    have q1 := X.heapSize
    have q2 := X.used
    simp only [hF, hU, List.length_cons, State.stackLimits_setFrames, State.stackBytes_setFrames, hl9, hb9]
    refine ⟨⟨⟨⟨by omega, by omega, by omega, by omega, by omega, h6⟩, ?_⟩, ?_⟩, X.book⟩
    · show T.heap.size + R'.cells ≤ e.platform.maxCells
      omega
    · show T.slotsUsed + R'.slots ≤ e.platform.maxSlots
      omega
  · rw [State.stackLimits_setFrames]; rfl
  · rw [State.stackBytes_setFrames]; rfl
  · refine ⟨?_, Nat.le_refl _, Nat.le_refl _, ?_, ?_, fun a c9 h9 => ⟨c9, h9, rfl, rfl, fun _ _ => rfl⟩⟩
    · obtain ⟨t, ht, -⟩ := State.frames_cons hr
      show T.setVm s.vm = { ((T.setVm s.vm).setFrames (.invoking m args :: below)).setFrames (T.setVm s.vm).frames with heap := T.heap, slotsUsed := T.slotsUsed }
      rw [State.setFrames_setFrames, State.setFrames_self ht]
      rfl
    · show T.slotsUsed = T.slotsUsed + ((T.heap.toList.drop T.heap.size).map (·.slots.size)).sum
      rw [List.drop_eq_nil_of_le (Nat.le_of_eq Array.length_toList)]
      rfl
    · show ((T.heap.toList.drop T.heap.size).map (·.slots.size)).sum ≤ 0
      rw [List.drop_eq_nil_of_le (Nat.le_of_eq Array.length_toList)]
      exact Nat.le_refl _
/-- 'throw new E()': new; dup; invokespecial; athrow -/
theorem vx_throw0 {cc : ByteArray} {pc : Nat} (hexec : p.tables.exec = Jvm.exec) (hb : c.code = cc) (hl : l.stackTraces = false) {own cls : String} {names : List String} {ik ic mc ms : Nat} {A : Nat → Prop}
    (hown : s.vm.findClass own = some m.cls) (hcls : Bundle.fit cls = true) (hnames : ∀ n ∈ names, Bundle.fit n = true)
    (hk : (Cond.classLink own ik cls).before args s = true) (hini : (Cond.initialized cls).before args s = true) (hat : ∀ w ∈ vx_at0 own ic cls names, w.before args s = true)
    (hgood : ∀ w ∈ Cond.classLink own ik cls :: Cond.initialized cls :: vx_at0 own ic cls names, vx_ot w = true)
    (hU : vx_Zq Bundle.tN "UNASSIGNED_STACK" Bundle.steD A s s.heap) (hN : vx_Zq Bundle.tN "SUPPRESSED_SENTINEL" Bundle.listD A s s.heap) (hS : va_S A s.heap H locs) (hsize : ls.size = c.maxLocals)
    (d0 : decode cc pc = .ok (.new ik, 3)) (d3 : decode cc (pc + 3) = .ok (.dup, 1)) (d4 : decode cc (pc + 4) = .ok (.invokespecial ic, 3)) (d7 : decode cc (pc + 7) = .ok (.athrow, 1))
    (hout : ∀ x ∈ c.exceptionTable.toList, covers x (pc + 7) = false)
    (hRframes : names.length + 3 < R.frames) (hRlocals : (rest.map fun v => v.category).sum + (13 * (names.length + 1) + 42) ≤ R.locals) (hRcells : cells + 1 ≤ R.cells) (hRslots : slots + 6 ≤ R.slots) (hlocks : meth.locks = false)
    (hx : ∀ t : State, s.vm.Alike t.vm → H.size ≤ t.heap.size → (∀ q : Nat, q < H.size → t.heap[q]? = H[q]?) → XC cls s t)
    (hf : ∀ z ∈ locs, free z.base) (hc : cells + 1 ≤ mc) (hs : slots + 6 ≤ ms) :
    W p l e R s m args below meth c H locs cells slots (vx_MQ below Qc XC args s mc ms free) (F0 m pc ls rest) := by
  intro T hT X
  have htr : e.platform.stackTraces = false := (show e.platform.stackTraces = l.stackTraces by rw [X.admits.platform]).trans hl
  have Y := vx_rebase X (R' := { frames := R.frames, locals := R.locals, cells := 1, slots := 6 }) (Nat.le_refl _) (Nat.le_refl _) hRcells hRslots
  obtain ⟨s', hA⟩ : ∃ z, z = (T.setVm s.vm).setFrames (.invoking m args :: below) := ⟨_, rfl⟩
  rw [← hA] at Y
  have hvm : s'.vm = s.vm := by rw [hA]; rfl
  have hhp : s'.heap = H := by rw [hA]; exact hT
  have hW0 : s.WarmedH s'.vm := by rw [hvm]; exact State.WarmedH.refl s
  have hat' : ∀ w ∈ vx_at0 own ic cls names, w.before args s' = true := fun w hw => vx_ot_at hW0 hvm.symm (hgood w (List.mem_cons_of_mem _ (List.mem_cons_of_mem _ hw))) (hat w hw)
  have hk' : (Cond.classLink own ik cls).before args s' = true := vx_ot_at hW0 hvm.symm (hgood _ List.mem_cons_self) hk
  have hini' : (Cond.initialized cls).before args s' = true := vx_ot_at hW0 hvm.symm (hgood _ (List.mem_cons_of_mem _ List.mem_cons_self)) hini
  have hU' : vx_Zq Bundle.tN "UNASSIGNED_STACK" Bundle.steD A s' s'.heap := by rw [hhp]; exact vx_Zq.moved hW0.alike (hU.kept hS.2.1)
  have hN' : vx_Zq Bundle.tN "SUPPRESSED_SENTINEL" Bundle.listD A s' s'.heap := by rw [hhp]; exact vx_Zq.moved hW0.alike (hN.kept hS.2.1)
  have h : ∀ w ∈ Bundle.ownAtoms0 own ic cls names, w.before args s' = true := vx_own hat' (vx_isRefq hU'.1) (vx_isRefq hN'.1) hU'.2.word hN'.2.word
  have hown' : s'.vm.findClass own = some m.cls := by rw [hvm]; exact hown
  have hins : (Cond.instantiable cls 6).before args s' = true := h _ (by simp [Bundle.ownAtoms0])
  obtain ⟨vm₁, cX, kX, hfX, hkX, -, -, X₁, st1⟩ := Y.newCold hexec (own := own) (C := cls) (index := ik) (n := 6) hown' hk' hins hini'
    (g := F0 m pc ls rest) rfl (by rw [hb]; exact d0) (Nat.le_refl _) (Nat.le_refl _)
  generalize hT1 : (T.setVm vm₁).pushCell { cls := cX, slots := kX.instanceTypes.map defaultValue, vm := .none } = T1 at X₁ st1
  have hcat : (Value.ref T.heap.size).category = 1 := rfl
  have hcellA : T1.heap[T.heap.size]? = some (freshCell cX kX) := by rw [← hT1]; exact State.heap_pushCell_size _ _
  have d3' : decode c.code (pc + 3) = .ok (.dup, 1) := by rw [hb]; exact d3
  obtain ⟨U, hsteps, hrun, hend, hW, hsame, ce, hce, hO⟩ := X₁.ctorThrow0 hexec htr (own := own) (cls := cls) (names := names) (ic := ic) hown' hcls hnames h (fun x hx => nomatch hx) hfX hkX hcellA (by rw [hhp, hT]; exact Nat.le_refl _)
    (g := { method := m, pc := pc + 4, locals := ls, stack := .ref T.heap.size :: .ref T.heap.size :: rest, locked := none }) rfl hsize rfl rfl (rest := rest) rfl
    (by rw [hb]; exact d4) (by rw [hb]; exact d7) hout hRframes (by simp only [List.map_cons, List.sum_cons, hcat]; omega) hlocks
  obtain ⟨f1, f2⟩ := vx_frame hsame
  rw [hhp] at f1 f2
  have hWs : s.WarmedH U.vm := State.WarmedH.trans hW0 hW
  have hcl : s.vm.findClass cls = some ce.cls := by
    have h9 := hO.cls
    rw [hvm] at h9
    exact h9
  have hall : s.sameButNew ({ U with vm := s.vm } : State) locs mc ms := by
    subst hA
    obtain ⟨e1, e2⟩ := hsame
    rw [State.setFrames_setFrames] at e1
    have h2 : (T.setVm s.vm).sameButNew ({ U with vm := s.vm } : State) [] (0 + 1) (0 + 6) := ⟨e1, e2⟩
    have h3 := X.same.trans h2
    rw [List.append_nil] at h3
    exact h3.mono hc hs
  refine ⟨U, ?_, .threw T.heap.size, hrun, hend, Or.inr ⟨T.heap.size, rfl, cls, ce, locs, hx U hWs.alike f1 (fun q hq => f2 q hq (fun z hz => nomatch hz)), hce, hO.vm, hcl, hWs, hall, hf⟩⟩
  refine st1 _ ?_
  show Steps p.tables e below (T1.setTop { method := m, pc := pc + 3, locals := ls, stack := .ref T.heap.size :: rest, locked := none }) _
  jvm_step X₁.here [X₁.here.top, hexec, d3', Value.category]
  exact hsteps
/-- 'throw new E("text")': new; dup; ldc; invokespecial; athrow -/
theorem vx_throwS {cc : ByteArray} {pc : Nat} (hexec : p.tables.exec = Jvm.exec) (hb : c.code = cc) (hl : l.stackTraces = false) {own cls text : String} {names : List String} {ik is ic mc ms sa : Nat} {A : Nat → Prop}
    (hown : s.vm.findClass own = some m.cls) (hcls : Bundle.fit cls = true) (hnames : ∀ n ∈ names, Bundle.fit n = true)
    (hk : (Cond.classLink own ik cls).before args s = true) (hini : (Cond.initialized cls).before args s = true) (hstr : vk_R own is text sa s) (hat : ∀ w ∈ vx_atS own ic cls names, w.before args s = true)
    (hgood : ∀ w ∈ Cond.classLink own ik cls :: Cond.initialized cls :: vx_atS own ic cls names, vx_ot w = true)
    (hU : vx_Zq Bundle.tN "UNASSIGNED_STACK" Bundle.steD A s s.heap) (hN : vx_Zq Bundle.tN "SUPPRESSED_SENTINEL" Bundle.listD A s s.heap) (hS : va_S A s.heap H locs) (hsize : ls.size = c.maxLocals)
    (d0 : decode cc pc = .ok (.new ik, 3)) (d3 : decode cc (pc + 3) = .ok (.dup, 1)) (d4 : decode cc (pc + 4) = .ok (.ldc is, 2)) (d6 : decode cc (pc + 6) = .ok (.invokespecial ic, 3)) (d9 : decode cc (pc + 9) = .ok (.athrow, 1))
    (hout : ∀ x ∈ c.exceptionTable.toList, covers x (pc + 9) = false)
    (hRframes : names.length + 3 < R.frames) (hRlocals : (rest.map fun v => v.category).sum + (13 * (names.length + 1) + 43) ≤ R.locals) (hRcells : cells + 1 ≤ R.cells) (hRslots : slots + 6 ≤ R.slots) (hlocks : meth.locks = false)
    (hx : ∀ t : State, s.vm.Alike t.vm → H.size ≤ t.heap.size → (∀ q : Nat, q < H.size → t.heap[q]? = H[q]?) → XC cls s t)
    (hf : ∀ z ∈ locs, free z.base) (hc : cells + 1 ≤ mc) (hs : slots + 6 ≤ ms) :
    W p l e R s m args below meth c H locs cells slots (vx_MQ below Qc XC args s mc ms free) (F0 m pc ls rest) := by
  intro T hT X
  have htr : e.platform.stackTraces = false := (show e.platform.stackTraces = l.stackTraces by rw [X.admits.platform]).trans hl
  have Y := vx_rebase X (R' := { frames := R.frames, locals := R.locals, cells := 1, slots := 6 }) (Nat.le_refl _) (Nat.le_refl _) hRcells hRslots
  obtain ⟨s', hA⟩ : ∃ z, z = (T.setVm s.vm).setFrames (.invoking m args :: below) := ⟨_, rfl⟩
  rw [← hA] at Y
  have hvm : s'.vm = s.vm := by rw [hA]; rfl
  have hhp : s'.heap = H := by rw [hA]; exact hT
  have hW0 : s.WarmedH s'.vm := by rw [hvm]; exact State.WarmedH.refl s
  have hat' : ∀ w ∈ vx_atS own ic cls names, w.before args s' = true := fun w hw => vx_ot_at hW0 hvm.symm (hgood w (List.mem_cons_of_mem _ (List.mem_cons_of_mem _ hw))) (hat w hw)
  have hk' : (Cond.classLink own ik cls).before args s' = true := vx_ot_at hW0 hvm.symm (hgood _ List.mem_cons_self) hk
  have hini' : (Cond.initialized cls).before args s' = true := vx_ot_at hW0 hvm.symm (hgood _ (List.mem_cons_of_mem _ List.mem_cons_self)) hini
  have hU' : vx_Zq Bundle.tN "UNASSIGNED_STACK" Bundle.steD A s' s'.heap := by rw [hhp]; exact vx_Zq.moved hW0.alike (hU.kept hS.2.1)
  have hN' : vx_Zq Bundle.tN "SUPPRESSED_SENTINEL" Bundle.listD A s' s'.heap := by rw [hhp]; exact vx_Zq.moved hW0.alike (hN.kept hS.2.1)
  have h : ∀ w ∈ Bundle.ownAtoms own ic cls names, w.before args s' = true := vx_own hat' (vx_isRefq hU'.1) (vx_isRefq hN'.1) hU'.2.word hN'.2.word
  have hown' : s'.vm.findClass own = some m.cls := by rw [hvm]; exact hown
  have hins : (Cond.instantiable cls 6).before args s' = true := h _ (by simp [Bundle.ownAtoms])
  obtain ⟨vm₁, cX, kX, hfX, hkX, -, -, X₁, st1⟩ := Y.newCold hexec (own := own) (C := cls) (index := ik) (n := 6) hown' hk' hins hini'
    (g := F0 m pc ls rest) rfl (by rw [hb]; exact d0) (Nat.le_refl _) (Nat.le_refl _)
  generalize hT1 : (T.setVm vm₁).pushCell { cls := cX, slots := kX.instanceTypes.map defaultValue, vm := .none } = T1 at X₁ st1
  have hcat : (Value.ref T.heap.size).category = 1 := rfl
  have hcellA : T1.heap[T.heap.size]? = some (freshCell cX kX) := by rw [← hT1]; exact State.heap_pushCell_size _ _
  have d3' : decode c.code (pc + 3) = .ok (.dup, 1) := by rw [hb]; exact d3
  have d4' : decode c.code (pc + 4) = .ok (.ldc is, 2) := by rw [hb]; exact d4
  have hstr' : vk_R own is text sa s' := vk_R.warm hW0 hstr
  obtain ⟨U, hsteps, hrun, hend, hW, hsame, ce, hce, hO⟩ := X₁.ctorThrowS hexec htr (own := own) (cls := cls) (names := names) (ic := ic) hown' hcls hnames h (fun x hx => nomatch hx) hfX hkX hcellA (by rw [hhp, hT]; exact Nat.le_refl _) (msg := .ref sa) rfl
    (g := { method := m, pc := pc + 6, locals := ls, stack := .ref sa :: .ref T.heap.size :: .ref T.heap.size :: rest, locked := none }) rfl hsize rfl rfl (rest := rest) rfl
    (by rw [hb]; exact d6) (by rw [hb]; exact d9) hout hRframes (by simp only [List.map_cons, List.sum_cons, hcat]; omega) hlocks
  obtain ⟨f1, f2⟩ := vx_frame hsame
  rw [hhp] at f1 f2
  have hWs : s.WarmedH U.vm := State.WarmedH.trans hW0 hW
  have hcl : s.vm.findClass cls = some ce.cls := by
    have h9 := hO.cls
    rw [hvm] at h9
    exact h9
  have hall : s.sameButNew ({ U with vm := s.vm } : State) locs mc ms := by
    subst hA
    obtain ⟨e1, e2⟩ := hsame
    rw [State.setFrames_setFrames] at e1
    have h2 : (T.setVm s.vm).sameButNew ({ U with vm := s.vm } : State) [] (0 + 1) (0 + 6) := ⟨e1, e2⟩
    have h3 := X.same.trans h2
    rw [List.append_nil] at h3
    exact h3.mono hc hs
  refine ⟨U, ?_, .threw T.heap.size, hrun, hend, Or.inr ⟨T.heap.size, rfl, cls, ce, locs, hx U hWs.alike f1 (fun q hq => f2 q hq (fun z hz => nomatch hz)), hce, hO.vm, hcl, hWs, hall, hf⟩⟩
  refine st1 _ ?_
  show Steps p.tables e below (T1.setTop { method := m, pc := pc + 3, locals := ls, stack := .ref T.heap.size :: rest, locked := none }) _
  jvm_step X₁.here [X₁.here.top, hexec, d3', Value.category]
  exact X₁.ldcString hexec (own := own) (text := text) (index := is) (a := sa) hown' hstr'.1 hstr'.2
    (g := { method := m, pc := pc + 4, locals := ls, stack := .ref T.heap.size :: .ref T.heap.size :: rest, locked := none }) rfl d4' _ hsteps
/-- 'throw new E("text")', the text by a wide index -/
theorem vx_throwSW {cc : ByteArray} {pc : Nat} (hexec : p.tables.exec = Jvm.exec) (hb : c.code = cc) (hl : l.stackTraces = false) {own cls text : String} {names : List String} {ik is ic mc ms sa : Nat} {A : Nat → Prop}
    (hown : s.vm.findClass own = some m.cls) (hcls : Bundle.fit cls = true) (hnames : ∀ n ∈ names, Bundle.fit n = true)
    (hk : (Cond.classLink own ik cls).before args s = true) (hini : (Cond.initialized cls).before args s = true) (hstr : vk_R own is text sa s) (hat : ∀ w ∈ vx_atS own ic cls names, w.before args s = true)
    (hgood : ∀ w ∈ Cond.classLink own ik cls :: Cond.initialized cls :: vx_atS own ic cls names, vx_ot w = true)
    (hU : vx_Zq Bundle.tN "UNASSIGNED_STACK" Bundle.steD A s s.heap) (hN : vx_Zq Bundle.tN "SUPPRESSED_SENTINEL" Bundle.listD A s s.heap) (hS : va_S A s.heap H locs) (hsize : ls.size = c.maxLocals)
    (d0 : decode cc pc = .ok (.new ik, 3)) (d3 : decode cc (pc + 3) = .ok (.dup, 1)) (d4 : decode cc (pc + 4) = .ok (.ldc_w is, 3)) (d7 : decode cc (pc + 7) = .ok (.invokespecial ic, 3)) (d10 : decode cc (pc + 10) = .ok (.athrow, 1))
    (hout : ∀ x ∈ c.exceptionTable.toList, covers x (pc + 10) = false)
    (hRframes : names.length + 3 < R.frames) (hRlocals : (rest.map fun v => v.category).sum + (13 * (names.length + 1) + 43) ≤ R.locals) (hRcells : cells + 1 ≤ R.cells) (hRslots : slots + 6 ≤ R.slots) (hlocks : meth.locks = false)
    (hx : ∀ t : State, s.vm.Alike t.vm → H.size ≤ t.heap.size → (∀ q : Nat, q < H.size → t.heap[q]? = H[q]?) → XC cls s t)
    (hf : ∀ z ∈ locs, free z.base) (hc : cells + 1 ≤ mc) (hs : slots + 6 ≤ ms) :
    W p l e R s m args below meth c H locs cells slots (vx_MQ below Qc XC args s mc ms free) (F0 m pc ls rest) := by
  intro T hT X
  have htr : e.platform.stackTraces = false := (show e.platform.stackTraces = l.stackTraces by rw [X.admits.platform]).trans hl
  have Y := vx_rebase X (R' := { frames := R.frames, locals := R.locals, cells := 1, slots := 6 }) (Nat.le_refl _) (Nat.le_refl _) hRcells hRslots
  obtain ⟨s', hA⟩ : ∃ z, z = (T.setVm s.vm).setFrames (.invoking m args :: below) := ⟨_, rfl⟩
  rw [← hA] at Y
  have hvm : s'.vm = s.vm := by rw [hA]; rfl
  have hhp : s'.heap = H := by rw [hA]; exact hT
  have hW0 : s.WarmedH s'.vm := by rw [hvm]; exact State.WarmedH.refl s
  have hat' : ∀ w ∈ vx_atS own ic cls names, w.before args s' = true := fun w hw => vx_ot_at hW0 hvm.symm (hgood w (List.mem_cons_of_mem _ (List.mem_cons_of_mem _ hw))) (hat w hw)
  have hk' : (Cond.classLink own ik cls).before args s' = true := vx_ot_at hW0 hvm.symm (hgood _ List.mem_cons_self) hk
  have hini' : (Cond.initialized cls).before args s' = true := vx_ot_at hW0 hvm.symm (hgood _ (List.mem_cons_of_mem _ List.mem_cons_self)) hini
  have hU' : vx_Zq Bundle.tN "UNASSIGNED_STACK" Bundle.steD A s' s'.heap := by rw [hhp]; exact vx_Zq.moved hW0.alike (hU.kept hS.2.1)
  have hN' : vx_Zq Bundle.tN "SUPPRESSED_SENTINEL" Bundle.listD A s' s'.heap := by rw [hhp]; exact vx_Zq.moved hW0.alike (hN.kept hS.2.1)
  have h : ∀ w ∈ Bundle.ownAtoms own ic cls names, w.before args s' = true := vx_own hat' (vx_isRefq hU'.1) (vx_isRefq hN'.1) hU'.2.word hN'.2.word
  have hown' : s'.vm.findClass own = some m.cls := by rw [hvm]; exact hown
  have hins : (Cond.instantiable cls 6).before args s' = true := h _ (by simp [Bundle.ownAtoms])
  obtain ⟨vm₁, cX, kX, hfX, hkX, -, -, X₁, st1⟩ := Y.newCold hexec (own := own) (C := cls) (index := ik) (n := 6) hown' hk' hins hini'
    (g := F0 m pc ls rest) rfl (by rw [hb]; exact d0) (Nat.le_refl _) (Nat.le_refl _)
  generalize hT1 : (T.setVm vm₁).pushCell { cls := cX, slots := kX.instanceTypes.map defaultValue, vm := .none } = T1 at X₁ st1
  have hcat : (Value.ref T.heap.size).category = 1 := rfl
  have hcellA : T1.heap[T.heap.size]? = some (freshCell cX kX) := by rw [← hT1]; exact State.heap_pushCell_size _ _
  have d3' : decode c.code (pc + 3) = .ok (.dup, 1) := by rw [hb]; exact d3
  have d4' : decode c.code (pc + 4) = .ok (.ldc_w is, 3) := by rw [hb]; exact d4
  have hstr' : vk_R own is text sa s' := vk_R.warm hW0 hstr
  obtain ⟨U, hsteps, hrun, hend, hW, hsame, ce, hce, hO⟩ := X₁.ctorThrowS hexec htr (own := own) (cls := cls) (names := names) (ic := ic) hown' hcls hnames h (fun x hx => nomatch hx) hfX hkX hcellA (by rw [hhp, hT]; exact Nat.le_refl _) (msg := .ref sa) rfl
    (g := { method := m, pc := pc + 7, locals := ls, stack := .ref sa :: .ref T.heap.size :: .ref T.heap.size :: rest, locked := none }) rfl hsize rfl rfl (rest := rest) rfl
    (by rw [hb]; exact d7) (by rw [hb]; exact d10) hout hRframes (by simp only [List.map_cons, List.sum_cons, hcat]; omega) hlocks
  obtain ⟨f1, f2⟩ := vx_frame hsame
  rw [hhp] at f1 f2
  have hWs : s.WarmedH U.vm := State.WarmedH.trans hW0 hW
  have hcl : s.vm.findClass cls = some ce.cls := by
    have h9 := hO.cls
    rw [hvm] at h9
    exact h9
  have hall : s.sameButNew ({ U with vm := s.vm } : State) locs mc ms := by
    subst hA
    obtain ⟨e1, e2⟩ := hsame
    rw [State.setFrames_setFrames] at e1
    have h2 : (T.setVm s.vm).sameButNew ({ U with vm := s.vm } : State) [] (0 + 1) (0 + 6) := ⟨e1, e2⟩
    have h3 := X.same.trans h2
    rw [List.append_nil] at h3
    exact h3.mono hc hs
  refine ⟨U, ?_, .threw T.heap.size, hrun, hend, Or.inr ⟨T.heap.size, rfl, cls, ce, locs, hx U hWs.alike f1 (fun q hq => f2 q hq (fun z hz => nomatch hz)), hce, hO.vm, hcl, hWs, hall, hf⟩⟩
  refine st1 _ ?_
  show Steps p.tables e below (T1.setTop { method := m, pc := pc + 3, locals := ls, stack := .ref T.heap.size :: rest, locked := none }) _
  jvm_step X₁.here [X₁.here.top, hexec, d3', Value.category]
  exact X₁.ldcStringW hexec (own := own) (text := text) (index := is) (a := sa) hown' hstr'.1 hstr'.2
    (g := { method := m, pc := pc + 4, locals := ls, stack := .ref T.heap.size :: .ref T.heap.size :: rest, locked := none }) rfl d4' _ hsteps
end Ends
section Bodies
variable {l : Launch}
theorem vx_ofW {y : MethodName} {ws ws' : List Cond} {rm : Room} {Pc : Array Value → State → Prop} {Qc : Array Value → State → Outcome → State → Prop} {XC : String → State → State → Prop} {mc ms : Nat} {free : Addr → Prop} {cc : ByteArray} {maxL : Nat} {ret : Option FieldType}
    (hy : plainName y.cls = true) (hw : ws = Cond.code y cc maxL ret :: ws')
    (body : ∀ p e s m args below meth c s₁, BodyLoose p l y (headSpec ws rm) cc maxL ret e s m args below meth c s₁ → c.maxLocals = maxL → (∀ x ∈ c.exceptionTable.toList, False) → Pc args s →
      W p l e (headSpec ws rm).room s m args below meth c s.heap [] 0 0 (vx_MQ below Qc XC args s mc ms free) (entryFrame m args maxL)) : vx_Met l y ws rm Pc Qc XC mc ms free := by
  refine MetFree.of_bodyS (code := cc) (maxLocals := maxL) (ret := ret) hy ?_ ?_
  · intro args s m h hn
    obtain ⟨meth, c, h1, h2, h3, h4, h5, h6, -, -⟩ := Cond.code_spec hn (atoms_spec (ws := ws) h _ (by rw [hw]; exact List.mem_cons_self))
    exact ⟨meth, c, h1, h2, h3, h4, h5, h6⟩
  · intro p e s m args below meth c s₁ B hml hP _
    have hh0 : s₁.heap = s.heap := by rw [B.state]; rfl
    have ht : ∀ x ∈ c.exceptionTable.toList, False := by
      obtain ⟨meth9, c9, h1, h2, -, -, -, -, h7, -⟩ := Cond.code_spec B.named (atoms_spec (ws := ws) B.pre _ (by rw [hw]; exact List.mem_cons_self))
      cases Option.some.inj (h1.symm.trans B.method)
      cases Option.some.inj (h2.symm.trans (Stand.of_body B).code)
      intro x hx
      rw [Array.isEmpty_iff.mp h7] at hx
      cases hx
    obtain ⟨t, a1, o, b1, b2, b3⟩ := body p e s m args below meth c s₁ B hml ht hP s₁ hh0 (Stand.of_body B)
    exact ⟨t, o, a1, b1, b2, b3⟩
/-- the table of a body with handlers -/
theorem vx_table {p : Program} {x y : MethodName} {S : Spec} {cc bytes : ByteArray} {maxL maxL' : Nat} {ret ret' : Option FieldType} {e : Env} {s s₁ : State} {m : MethodId} {args : Array Value} {below : List Frame} {meth : Method} {c : Code} {hh : List (Nat × Nat × Nat × Nat)}
    (B : BodyLoose p l y S cc maxL ret e s m args below meth c s₁) (h : (Cond.codeWith y bytes maxL' ret' hh).before args s = true) : c.exceptionTable.toList = tableOf hh := by
  obtain ⟨m9, meth9, c9, hn9, h1, h2, -, -, h6, -⟩ := Cond.codeWith_spec h
  cases Option.some.inj (hn9.symm.trans B.named)
  cases Option.some.inj (h1.symm.trans B.method)
  cases Option.some.inj (h2.symm.trans (Stand.of_body B).code)
  rw [← h6, table_eq]
end Bodies
end VXA
/-! ===== END ===== -/
/-! ===== BEGIN a static call of a method with an exception table ===== -/
section VXS
variable {p : Program} {l : Launch} {e : Env} {R : Room} {s : State} {m : MethodId} {args : Array Value} {below : List Frame} {meth : Method} {c : Code} {T : State} {H : Heap} {locs : List Loc} {cells slots : Nat}
abbrev vx_CSW (R : Room) (s : State) (args : Array Value) (own : String) (index : Nat) (y : MethodName) (bytes : ByteArray) (maxL : Nat) (ret : Option FieldType) (hh : List (Nat × Nat × Nat × Nat)) (ws : List Cond) (rm : Room) (mc ms n : Nat) : Prop :=
  (rm.cells = mc ∧ rm.slots = ms ∧ rm.frames + 1 ≤ R.frames ∧ 8 + (maxL + 11) + rm.locals ≤ R.locals ∧ (∀ w ∈ ws, ∀ (a' : Array Value) (U : State), s.WarmedH U.vm → w.before a' U = true) ∧ Cond.codeWith y bytes maxL ret hh ∈ ws) ∧
  (Cond.codeWith y bytes maxL ret hh).before args s = true ∧ (Cond.initialized y.cls).before args s = true ∧ (y.cls ≠ "java/lang/invoke/MethodHandle" ∧ y.cls ≠ "java/lang/invoke/VarHandle") ∧
  (∀ sig, parseMethodDescriptor y.desc = some sig → n = sig.parameters.length) ∧ (Cond.methodLink own index y).before args s = true ∧ (Cond.static y).before args s = true
theorem vx_cwSW {own : String} {index maxL mc ms : Nat} {y : MethodName} {bytes : ByteArray} {ret : Option FieldType} {hh : List (Nat × Nat × Nat × Nat)} {Ts ws ws' : List Cond} {rm : Room} (n : Nat) (ht : ∀ w ∈ Ts, w.before args s = true) (hT : GoodIn Ts (va_wsS own index y ws)) (hw : ws = Cond.codeWith y bytes maxL ret hh :: ws') (hrc : rm.cells = mc) (hrs : rm.slots = ms)
    (hd : y.cls ≠ "java/lang/invoke/MethodHandle" ∧ y.cls ≠ "java/lang/invoke/VarHandle" ∧ (parseMethodDescriptor y.desc).map (fun d => d.parameters.length) = some n) (hR : rm.frames + 1 ≤ R.frames ∧ 8 + (maxL + 11) + rm.locals ≤ R.locals) :
    vx_CSW R s args own index y bytes maxL ret hh ws rm mc ms n := by
  have ok : ∀ w ∈ va_wsS own index y ws, w.before args s = true := fun w h => ht w (hT w h).1
  have hG : GoodIn Ts ws := fun w h => hT w (by unfold va_wsS; exact List.mem_append_right _ h)
  have hc : Cond.codeWith y bytes maxL ret hh ∈ ws := by rw [hw]; exact List.mem_cons_self
  refine ⟨⟨hrc, hrs, hR.1, hR.2, pay_in ht hG, hc⟩, ht _ (hG _ hc).1, ok _ (by simp [va_wsS]), ⟨hd.1, hd.2.1⟩, fun sig h => ?_, ok _ (by simp [va_wsS]), ok _ (by simp [va_wsS])⟩
  have h2 := hd.2.2
  rw [h] at h2
  exact (Option.some.inj h2).symm
theorem vx_callSW (X : Stand p l e R s m args below meth c T locs cells slots) (hexec : p.tables.exec = Jvm.exec) {own : String} {index : Nat} {y : MethodName} {bytes : ByteArray} {maxL : Nat} {ret : Option FieldType} {hh : List (Nat × Nat × Nat × Nat)}
    (hown : s.vm.findClass own = some m.cls) (hlink : (Cond.methodLink own index y).before args s = true) (hstat : (Cond.static y).before args s = true) (hinit : (Cond.initialized y.cls).before args s = true)
    (hcode : (Cond.codeWith y bytes maxL ret hh).before args s = true) (hy : y.cls ≠ "java/lang/invoke/MethodHandle" ∧ y.cls ≠ "java/lang/invoke/VarHandle")
    {W9 : Nat} {Pre : Pt → Array Value → Prop} {Post : Pt → Array Value → Option Value → Pt → Prop} (hK : Back l R p e below s args y 3 W9 Pre Post)
    {g : JFrame} (hg : g.method = m) (hsize : g.locals.size = c.maxLocals) {argsL rest : List Value} (hlen : ∀ sig, parseMethodDescriptor y.desc = some sig → argsL.length = sig.parameters.length)
    (hstack : g.stack = argsL.reverse ++ rest) (hW : 2 * g.monitorRoom + (rest.map fun v => v.category).sum ≤ W9) (hdg : decode c.code g.pc = .ok (.invokestatic index, 3))
    (hpre : ∀ vm₁, s.WarmedH vm₁ → Pre ⟨T.setVm vm₁, locs, cells, slots⟩ argsL.toArray) :
    ∃ (v : Option Value) (vm₁ : Vm) (B : Pt), s.WarmedH vm₁ ∧ Stand p l e R s m args below meth c B.U B.locs B.cells B.slots ∧ Post ⟨T.setVm vm₁, locs, cells, slots⟩ argsL.toArray v B ∧
      ∀ target, Steps p.tables e below (B.U.setTop { g with pc := g.pc + 3, stack := v.toList ++ rest }) target → Steps p.tables e below (T.setTop g) target := by
  obtain ⟨mk, methM, cM, hnamed, hmethM, -, -, -, -, -, -, hsigM⟩ := Cond.codeWith_spec hcode
  have hstatic : methM.isStatic = true := Cond.static_spec hnamed hmethM hstat
  obtain ⟨kP, hkP, -⟩ := className_of_methodNamed hnamed
  have hinitP : kP.init = .initialized := Cond.initialized_spec (findClass_of_methodNamed hnamed) hkP hinit
  obtain ⟨vm₁, X₁, hstep₁⟩ := X.invokestatic hexec hown hlink hnamed hmethM hstatic hkP hinitP hy (g := g) hg (argsL := argsL) (rest := rest) (hlen _ hsigM) hstack hdg
  obtain ⟨v, B, X', hpost, hsteps⟩ := hK m meth c ⟨T.setVm vm₁, locs, cells, slots⟩ { g with stack := rest } (.invokestatic index) mk argsL.toArray X₁ hg hsize hdg hW (X₁.named hnamed) (hpre vm₁ X₁.warmed)
  exact ⟨v, vm₁, B, X₁.warmed, X', hpost, fun target h => hstep₁ _ fun acts => by rw [doInvoke_state]; exact hsteps.trans h⟩
theorem vx_runSW {y : MethodName} {bytes cc : ByteArray} {maxL nL mc ms n index : Nat} {ret : Option FieldType} {hh : List (Nat × Nat × Nat × Nat)} {ws : List Cond} {rm : Room} {Pc : Array Value → State → Prop} {Qc : Array Value → State → Outcome → State → Prop} {free : Addr → Prop} {Ts : List Cond} {own : String} {As rest : List Value} {g : JFrame}
    (S : CallFix p m c cc nL s args Ts own) (hM : Met l y ws rm Pc Qc mc ms free) (cw : vx_CSW R s args own index y bytes maxL ret hh ws rm mc ms n) (hp : PreS s H Pc As)
    (hg : g.method = m) (hn : As.length = n) (hsize : g.locals.size = nL) (hstack : g.stack = As.reverse ++ rest) (hW : 2 * g.monitorRoom + (rest.map fun v => v.category).sum ≤ 8) (hdg : decode cc g.pc = .ok (.invokestatic index, 3)) (hf : cells + mc ≤ R.cells ∧ slots + ms ≤ R.slots) :
    va_Run p l e R s m args below meth c H locs cells slots mc ms g rest (Qc As.toArray) (free) := by
  obtain ⟨⟨hrc, hrs, hfr, hlo, hws, hcw⟩, hcode, hini, hy, hlen, hl, hstt⟩ := cw
  have hK : Back l R p e below s args y 3 8 (PreOf R mc ms Pc) (PostOf Qc mc ms free) := va_backW (hh := hh) (bytes := bytes) (maxL := maxL) (ret := ret) hM hp.1 hrc hrs hfr hlo hws hcw (fun a' U hW => word_at hW (Or.inl (by first | rfl | simp [Cond.onTables, Cond.keeps, Cond.steady])) hini)
  obtain ⟨hx, hb, hml, ho, -⟩ := S
  intro T hT X
  obtain ⟨v, vm₁, ⟨U', l2, c2, s2⟩, hW₁, X', ⟨g', mk, t, L, e1, e2, hq, h1, hL, h2, h3⟩, st⟩ := vx_callSW X hx (hh := hh) (bytes := bytes) (maxL := maxL) (ret := ret) ho hl hstt hini hcode hy hK hg (hsize.trans hml.symm) (argsL := As) (rest := rest) (fun sig h => hn.trans (hlen sig h)) hstack hW (by rw [hb]; exact hdg)
    (fun vm₁ hW₁ => ⟨hf.1, hf.2, hp.2 (T.setVm vm₁) hT hW₁⟩)
  dsimp only [Pt.U, Pt.locs, Pt.cells, Pt.slots] at X' e1 e2 h1 h2 h3 st
  subst h1; subst h2; subst h3
  exact ⟨v, (T.setVm vm₁).calling g' mk As.toArray, t, U', L, hT, X', hL, e1, e2, hq, st⟩
/-- a thing of a world lies in the heap -/
theorem vx_lt {D : va_G} {cl : List vw_C} {ws : va_W} {H1 : Heap} (h : va_P D cl ws H1) {k : Nat} {q : Nat × va_E} (hk : ws[k]? = some q) : q.1 < H1.size := (h k q hk).lt
end VXS
/-! ===== END ===== -/
/-! ===== BEGIN methods with a table of their own: called by a name, returning or throwing ===== -/
section VXH
/-! vx_backW, vx_callVX, vx_callSX, vx_callVW, vx_runVW, vx_runVX, vx_runSX, vx_ofWH follow the same proofs as their sisters above (Free/Laws.lean, Shelf42/LK1.lean); vx_outP calls Shelf42/NT130.lean (outThrough). -/
section
variable {l : Launch} {R : Room} {p : Program} {e : Env} {below : List Frame} {s : State} {sargs : Array Value} {y : MethodName} {len W9 : Nat}
theorem vx_backW {ws : List Cond} {rm : Room} {Pc : Array Value → State → Prop} {Qc : Array Value → State → Outcome → State → Prop} {XC : String → State → State → Prop} {mc ms : Nat} {free : Addr → Prop} {bytes : ByteArray} {maxL : Nat} {ret : Option FieldType} {hh : List (Nat × Nat × Nat × Nat)}
    (hM : vx_Met l y ws rm Pc Qc XC mc ms free) (hblind : FrameBlind Pc) (hrc : rm.cells = mc) (hrs : rm.slots = ms)
    (hframes : rm.frames + 1 ≤ R.frames) (hlocals : W9 + (maxL + 11) + rm.locals ≤ R.locals)
    (hws : ∀ w ∈ ws, ∀ a' U, s.WarmedH U.vm → w.before a' U = true) (hcode : Cond.codeWith y bytes maxL ret hh ∈ ws) (hinit : ∀ a' U, s.WarmedH U.vm → (Cond.initialized y.cls).before a' U = true) :
    vx_Back l R p e below s sargs y len W9 (PreOf R mc ms Pc) (PostOf Qc mc ms free) (vx_Post XC mc ms free) := by
  intro m meth c A g ig mk a X hg hsize hdg hW hn hp
  have h1 : (headSpec ws rm).pre.before a A.U = true := atoms_intro fun w hw => hws w hw _ _ X.warmed
  have h2 : (Cond.codeWith y bytes maxL ret hh).before a A.U = true := hws _ hcode _ _ X.warmed
  have h3 : (Cond.initialized y.cls).before a A.U = true := hinit _ _ X.warmed
  have h4 : A.cells + (headSpec ws rm).room.cells ≤ R.cells := by rw [show (headSpec ws rm).room.cells = mc from hrc]; exact hp.1
  have h5 : A.slots + (headSpec ws rm).room.slots ≤ R.slots := by rw [show (headSpec ws rm).room.slots = ms from hrs]; exact hp.2.1
  have hPc : Pc a (A.U.calling g mk a) := hblind _ _ _ _ hp.2.2
  obtain ⟨U, Ls, c0, s0⟩ := A
  dsimp only [Pt.U, Pt.locs, Pt.cells, Pt.slots] at h1 h2 h3 h4 h5 X hn hPc ⊢
  obtain ⟨m9, methY, cY, hn9, hmY, hcY, -, hlY, -⟩ := Cond.codeWith_spec h2
  cases Option.some.inj (hn9.symm.trans hn)
  obtain ⟨kY, hkY, -⟩ := className_of_methodNamed hn
  have hinitY : kY.init = .initialized := Cond.initialized_spec (findClass_of_methodNamed hn) hkY h3
  have h : At U g.method c below := by rw [hg]; exact X.here
  have hlocals9 : W9 + (maxL + 11) + (headSpec ws rm).room.locals ≤ R.locals := hlocals
  have happ : (headSpec ws rm).appliesLoose y e.platform (U.calling g mk a) = true :=
    Spec.appliesLoose_calling (g := g) h hdg hn hkY hinitY
      (X.room_calling (g := g) (R' := (headSpec ws rm).room) hsize hmY hcY hframes (by rw [hlY]; omega) h4 h5) h1
  obtain ⟨mid, hmid⟩ := h.above
  have hfr : (U.setTop g).frames = (.java g :: mid) ++ below := by rw [State.frames_setTop' g h.top, hmid]; rfl
  obtain ⟨o, s₂, hsteps, -, hend, hq⟩ := Steps.callFree hM p X.admits X.cas X.clock (acts := []) hfr happ hPc trivial
  have hq' : vx_Q Qc XC mc ms free a (U.calling g mk a) o s₂ := hq
  rw [State.frames_setTop' g h.top] at hend
  obtain ⟨g₀, hg0⟩ := Option.isSome_iff_exists.mp h.top
  obtain ⟨r, hr⟩ := State.topJava?_eq_some.mp hg0
  have hr' : (({ U with heap := s₂.heap, slotsUsed := s₂.slotsUsed } : State).setVm s₂.vm).frames = .java g₀ :: r := hr
  rcases hq' with ⟨hqc, L, hfe, hL⟩ | ⟨q, rfl, E, ce, L, hx, hce, hcv, hcl, hW₂, hsm, hL⟩
  · obtain ⟨⟨v, rfl⟩, hW₂, e2, q2, q3, q4, q5, q6⟩ := id hfe
    have e3 : s₂ = ({ (U.calling g mk a).setFrames s₂.frames with heap := s₂.heap, slotsUsed := s₂.slotsUsed } : State).setVm s₂.vm := by
      have : s₂ = ({ s₂ with vm := (U.calling g mk a).vm } : State).setVm s₂.vm := rfl
      rw [e2] at this
      exact this
    obtain ⟨c₂, i₂, len₂, hc₂, hd₂, hf₂⟩ := hend
    have hW' : U.WarmedH s₂.vm := hW₂
    have hcc : c₂ = c := by
      have h1 : s₂.code? g.method = U.code? g.method := by
        rw [State.code?_eq, State.code?_eq, hW'.alike.method?]
      exact Option.some.inj (hc₂.symm.trans (h1.trans h.code))
    subst hcc
    have hlen : len₂ = len := by rw [hdg] at hd₂; cases hd₂; rfl
    subst hlen
    have hs₂ : s₂ = (({ U with heap := s₂.heap, slotsUsed := s₂.slotsUsed } : State).setVm s₂.vm).setTop { g with pc := g.pc + len₂, stack := v.toList ++ g.stack } := by
      refine e3.trans ?_
      rw [hf₂, State.calling_eq h.top, State.setFrames_setFrames, State.setTop_of_frames _ hr', hr]
      rfl
    have hsame : U.sameButNew ({ U with heap := s₂.heap, slotsUsed := s₂.slotsUsed } : State) L mc ms := by
      refine ⟨?_, q2, q3, q4, q5, q6⟩
      obtain ⟨t, ht, -⟩ := State.frames_cons hr
      show ({ U with heap := s₂.heap, slotsUsed := s₂.slotsUsed } : State) = { U.setFrames U.frames with heap := s₂.heap, slotsUsed := s₂.slotsUsed }
      rw [State.setFrames_self ht]
    subst hg
    refine Or.inl ⟨v, ⟨(({ U with heap := s₂.heap, slotsUsed := s₂.slotsUsed } : State).setVm s₂.vm), Ls ++ L, c0 + mc, s0 + ms⟩,
      ⟨X.admits, X.cas, X.clock, X.frames, X.room, X.hears, X.method, X.code, (X.here.setHeapUsed s₂.heap s₂.slotsUsed).setVm hW'.alike, X.tail, State.WarmedH.trans X.warmed hW', X.limits, X.bytes, X.same.trans (hsame.setVm s.vm)⟩,
      ⟨g, mk, s₂, L, rfl, rfl, hqc, rfl, hL, rfl, rfl⟩, ?_⟩
    show Steps p.tables e below _ ((({ U with heap := s₂.heap, slotsUsed := s₂.slotsUsed } : State).setVm s₂.vm).setTop { g with pc := g.pc + len₂, stack := v.toList ++ g.stack })
    rw [← hs₂]
    exact hsteps
  · obtain ⟨e2, q2, q3, q4, q5, q6⟩ := id hsm
    have e3 : s₂ = ({ (U.calling g mk a).setFrames s₂.frames with heap := s₂.heap, slotsUsed := s₂.slotsUsed } : State).setVm s₂.vm := by
      have : s₂ = ({ s₂ with vm := (U.calling g mk a).vm } : State).setVm s₂.vm := rfl
      rw [e2] at this
      exact this
    have hf₂ : s₂.frames = .throwing q :: .java g :: U.frames.tail := hend
    have hW' : U.WarmedH s₂.vm := hW₂
    have hs₂ : s₂ = ((({ U with heap := s₂.heap, slotsUsed := s₂.slotsUsed } : State).setVm s₂.vm).setTop g).pushFrame (.throwing q) := by
      refine e3.trans ?_
      rw [hf₂, State.calling_eq h.top, State.setFrames_setFrames, State.pushFrame, State.frames_setTop _ hr', State.setTop_of_frames _ hr', State.setFrames_setFrames, hr]
      rfl
    have hsame : U.sameButNew ({ U with heap := s₂.heap, slotsUsed := s₂.slotsUsed } : State) L mc ms := by
      refine ⟨?_, q2, q3, q4, q5, q6⟩
      obtain ⟨t, ht, -⟩ := State.frames_cons hr
      show ({ U with heap := s₂.heap, slotsUsed := s₂.slotsUsed } : State) = { U.setFrames U.frames with heap := s₂.heap, slotsUsed := s₂.slotsUsed }
      rw [State.setFrames_self ht]
    subst hg
    refine Or.inr ⟨q, ⟨(({ U with heap := s₂.heap, slotsUsed := s₂.slotsUsed } : State).setVm s₂.vm), Ls ++ L, c0 + mc, s0 + ms⟩,
      ⟨X.admits, X.cas, X.clock, X.frames, X.room, X.hears, X.method, X.code, (X.here.setHeapUsed s₂.heap s₂.slotsUsed).setVm hW'.alike, X.tail, State.WarmedH.trans X.warmed hW', X.limits, X.bytes, X.same.trans (hsame.setVm s.vm)⟩,
      ⟨g, mk, s₂, L, E, ce, rfl, rfl, hx, hce, hcv, hcl, rfl, hL, rfl, rfl⟩, ?_⟩
    show Steps p.tables e below _ (((({ U with heap := s₂.heap, slotsUsed := s₂.slotsUsed } : State).setVm s₂.vm).setTop g).pushFrame (.throwing q))
    rw [← hs₂]
    exact hsteps
end
variable {p : Program} {l : Launch} {e : Env} {R : Room} {s : State} {m : MethodId} {args : Array Value} {below : List Frame} {meth : Method} {c : Code} {T : State} {H : Heap} {locs : List Loc} {cells slots : Nat}
theorem vx_callVX (X : Stand p l e R s m args below meth c T locs cells slots) (hexec : p.tables.exec = Jvm.exec) {own C : String} {index : Nat} {y : MethodName} {bytes : ByteArray} {maxL : Nat} {ret : Option FieldType} {hh : List (Nat × Nat × Nat × Nat)}
    (hown : s.vm.findClass own = some m.cls) (hlink : (Cond.methodLink own index y).before args s = true) (hinst : (Cond.instanceMethod y).before args s = true) (hsel : (Cond.selects C y y).before args s = true)
    (hcode : (Cond.codeWith y bytes maxL ret hh).before args s = true) (hy : y.cls ≠ "java/lang/invoke/MethodHandle" ∧ y.cls ≠ "java/lang/invoke/VarHandle")
    {W9 : Nat} {Pre : Pt → Array Value → Prop} {Post : Pt → Array Value → Option Value → Pt → Prop} {PostX : Pt → Array Value → Addr → Pt → Prop} (hK : vx_Back l R p e below s args y 3 W9 Pre Post PostX)
    {b : Addr} {cellB : Cell} (hcell : T.heap[b]? = some cellB) (hobj : cellB.vm.isStatics = false) (hcls : s.vm.findClass C = some cellB.cls)
    {g : JFrame} (hg : g.method = m) (hsize : g.locals.size = c.maxLocals) {argsL rest : List Value} (hlen : ∀ sig, parseMethodDescriptor y.desc = some sig → argsL.length = sig.parameters.length)
    (hstack : g.stack = argsL.reverse ++ .ref b :: rest) (hW : 2 * g.monitorRoom + (rest.map fun v => v.category).sum ≤ W9) (hdg : decode c.code g.pc = .ok (.invokevirtual index, 3))
    (hpre : ∀ vm₁, s.WarmedH vm₁ → Pre ⟨T.setVm vm₁, locs, cells, slots⟩ (Value.ref b :: argsL).toArray) :
    (∃ (v : Option Value) (vm₁ : Vm) (B : Pt), s.WarmedH vm₁ ∧ Stand p l e R s m args below meth c B.U B.locs B.cells B.slots ∧ Post ⟨T.setVm vm₁, locs, cells, slots⟩ (Value.ref b :: argsL).toArray v B ∧
      ∀ target, Steps p.tables e below (B.U.setTop { g with pc := g.pc + 3, stack := v.toList ++ rest }) target → Steps p.tables e below (T.setTop g) target) ∨
    (∃ (q : Addr) (vm₁ : Vm) (B : Pt), s.WarmedH vm₁ ∧ Stand p l e R s m args below meth c B.U B.locs B.cells B.slots ∧ PostX ⟨T.setVm vm₁, locs, cells, slots⟩ (Value.ref b :: argsL).toArray q B ∧
      Steps p.tables e below (T.setTop g) ((B.U.setTop { g with stack := rest }).pushFrame (.throwing q))) := by
  obtain ⟨mk, methM, hnamed, hmethM, hstM, habM⟩ := Cond.instanceMethod_spec hinst
  obtain ⟨m8, methM', cM, hn8, hmethM', -, -, -, -, -, -, hsigM⟩ := Cond.codeWith_spec hcode
  cases Option.some.inj (hn8.symm.trans hnamed)
  cases hmethM.symm.trans hmethM'
  obtain ⟨c2, r2, m2, q1, q2, q3, q4, kP, hkP, hkPi⟩ := Cond.selects_spec hsel
  cases hcls.symm.trans q1
  cases (State.methodFound?_of_named hnamed hy).symm.trans q2
  cases hnamed.symm.trans q3
  have hselP : selectMethod e.platform s.vm cellB.cls mk = .method mk := by rw [Launch.admits_selectMethod X.admits]; exact q4
  obtain ⟨vm₁, X₁, hstep₁⟩ := X.invokevirtual hexec hown hlink hnamed hmethM hstM hkP hkPi hy (a := b) (cell := cellB) hcell
    (fun z h => by rw [h] at hobj; cases hobj) hselP hmethM habM hkP hkPi (g := g) hg (argsL := argsL) (rest := rest) (hlen _ hsigM) hstack hdg
  rcases hK m meth c ⟨T.setVm vm₁, locs, cells, slots⟩ { g with stack := rest } (.invokevirtual index) mk (Value.ref b :: argsL).toArray X₁ hg hsize hdg hW (X₁.named hnamed) (hpre vm₁ X₁.warmed) with ⟨v, B, X', hpost, hsteps⟩ | ⟨q, B, X', hpost, hsteps⟩
  · exact Or.inl ⟨v, vm₁, B, X₁.warmed, X', hpost, fun target h => hstep₁ _ fun acts => by rw [doInvoke_state]; exact hsteps.trans h⟩
  · exact Or.inr ⟨q, vm₁, B, X₁.warmed, X', hpost, hstep₁ _ fun acts => by rw [doInvoke_state]; exact hsteps⟩
theorem vx_callSX (X : Stand p l e R s m args below meth c T locs cells slots) (hexec : p.tables.exec = Jvm.exec) {own : String} {index : Nat} {y : MethodName} {bytes : ByteArray} {maxL : Nat} {ret : Option FieldType} {hh : List (Nat × Nat × Nat × Nat)}
    (hown : s.vm.findClass own = some m.cls) (hlink : (Cond.methodLink own index y).before args s = true) (hstat : (Cond.static y).before args s = true) (hinit : (Cond.initialized y.cls).before args s = true)
    (hcode : (Cond.codeWith y bytes maxL ret hh).before args s = true) (hy : y.cls ≠ "java/lang/invoke/MethodHandle" ∧ y.cls ≠ "java/lang/invoke/VarHandle")
    {W9 : Nat} {Pre : Pt → Array Value → Prop} {Post : Pt → Array Value → Option Value → Pt → Prop} {PostX : Pt → Array Value → Addr → Pt → Prop} (hK : vx_Back l R p e below s args y 3 W9 Pre Post PostX)
    {g : JFrame} (hg : g.method = m) (hsize : g.locals.size = c.maxLocals) {argsL rest : List Value} (hlen : ∀ sig, parseMethodDescriptor y.desc = some sig → argsL.length = sig.parameters.length)
    (hstack : g.stack = argsL.reverse ++ rest) (hW : 2 * g.monitorRoom + (rest.map fun v => v.category).sum ≤ W9) (hdg : decode c.code g.pc = .ok (.invokestatic index, 3))
    (hpre : ∀ vm₁, s.WarmedH vm₁ → Pre ⟨T.setVm vm₁, locs, cells, slots⟩ argsL.toArray) :
    (∃ (v : Option Value) (vm₁ : Vm) (B : Pt), s.WarmedH vm₁ ∧ Stand p l e R s m args below meth c B.U B.locs B.cells B.slots ∧ Post ⟨T.setVm vm₁, locs, cells, slots⟩ argsL.toArray v B ∧
      ∀ target, Steps p.tables e below (B.U.setTop { g with pc := g.pc + 3, stack := v.toList ++ rest }) target → Steps p.tables e below (T.setTop g) target) ∨
    (∃ (q : Addr) (vm₁ : Vm) (B : Pt), s.WarmedH vm₁ ∧ Stand p l e R s m args below meth c B.U B.locs B.cells B.slots ∧ PostX ⟨T.setVm vm₁, locs, cells, slots⟩ argsL.toArray q B ∧
      Steps p.tables e below (T.setTop g) ((B.U.setTop { g with stack := rest }).pushFrame (.throwing q))) := by
  obtain ⟨mk, methM, cM, hnamed, hmethM, -, -, -, -, -, -, hsigM⟩ := Cond.codeWith_spec hcode
  have hstatic : methM.isStatic = true := Cond.static_spec hnamed hmethM hstat
  obtain ⟨kP, hkP, -⟩ := className_of_methodNamed hnamed
  have hinitP : kP.init = .initialized := Cond.initialized_spec (findClass_of_methodNamed hnamed) hkP hinit
  obtain ⟨vm₁, X₁, hstep₁⟩ := X.invokestatic hexec hown hlink hnamed hmethM hstatic hkP hinitP hy (g := g) hg (argsL := argsL) (rest := rest) (hlen _ hsigM) hstack hdg
  rcases hK m meth c ⟨T.setVm vm₁, locs, cells, slots⟩ { g with stack := rest } (.invokestatic index) mk argsL.toArray X₁ hg hsize hdg hW (X₁.named hnamed) (hpre vm₁ X₁.warmed) with ⟨v, B, X', hpost, hsteps⟩ | ⟨q, B, X', hpost, hsteps⟩
  · exact Or.inl ⟨v, vm₁, B, X₁.warmed, X', hpost, fun target h => hstep₁ _ fun acts => by rw [doInvoke_state]; exact hsteps.trans h⟩
  · exact Or.inr ⟨q, vm₁, B, X₁.warmed, X', hpost, hstep₁ _ fun acts => by rw [doInvoke_state]; exact hsteps⟩
theorem vx_callVW (X : Stand p l e R s m args below meth c T locs cells slots) (hexec : p.tables.exec = Jvm.exec) {own C : String} {index : Nat} {y : MethodName} {bytes : ByteArray} {maxL : Nat} {ret : Option FieldType} {hh : List (Nat × Nat × Nat × Nat)}
    (hown : s.vm.findClass own = some m.cls) (hlink : (Cond.methodLink own index y).before args s = true) (hinst : (Cond.instanceMethod y).before args s = true) (hsel : (Cond.selects C y y).before args s = true)
    (hcode : (Cond.codeWith y bytes maxL ret hh).before args s = true) (hy : y.cls ≠ "java/lang/invoke/MethodHandle" ∧ y.cls ≠ "java/lang/invoke/VarHandle")
    {W9 : Nat} {Pre : Pt → Array Value → Prop} {Post : Pt → Array Value → Option Value → Pt → Prop} (hK : Back l R p e below s args y 3 W9 Pre Post)
    {b : Addr} {cellB : Cell} (hcell : T.heap[b]? = some cellB) (hobj : cellB.vm.isStatics = false) (hcls : s.vm.findClass C = some cellB.cls)
    {g : JFrame} (hg : g.method = m) (hsize : g.locals.size = c.maxLocals) {argsL rest : List Value} (hlen : ∀ sig, parseMethodDescriptor y.desc = some sig → argsL.length = sig.parameters.length)
    (hstack : g.stack = argsL.reverse ++ .ref b :: rest) (hW : 2 * g.monitorRoom + (rest.map fun v => v.category).sum ≤ W9) (hdg : decode c.code g.pc = .ok (.invokevirtual index, 3))
    (hpre : ∀ vm₁, s.WarmedH vm₁ → Pre ⟨T.setVm vm₁, locs, cells, slots⟩ (Value.ref b :: argsL).toArray) :
    ∃ (v : Option Value) (vm₁ : Vm) (B : Pt), s.WarmedH vm₁ ∧ Stand p l e R s m args below meth c B.U B.locs B.cells B.slots ∧ Post ⟨T.setVm vm₁, locs, cells, slots⟩ (Value.ref b :: argsL).toArray v B ∧
      ∀ target, Steps p.tables e below (B.U.setTop { g with pc := g.pc + 3, stack := v.toList ++ rest }) target → Steps p.tables e below (T.setTop g) target := by
  obtain ⟨mk, methM, hnamed, hmethM, hstM, habM⟩ := Cond.instanceMethod_spec hinst
  obtain ⟨m8, methM', cM, hn8, hmethM', -, -, -, -, -, -, hsigM⟩ := Cond.codeWith_spec hcode
  cases Option.some.inj (hn8.symm.trans hnamed)
  cases hmethM.symm.trans hmethM'
  obtain ⟨c2, r2, m2, q1, q2, q3, q4, kP, hkP, hkPi⟩ := Cond.selects_spec hsel
  cases hcls.symm.trans q1
  cases (State.methodFound?_of_named hnamed hy).symm.trans q2
  cases hnamed.symm.trans q3
  have hselP : selectMethod e.platform s.vm cellB.cls mk = .method mk := by rw [Launch.admits_selectMethod X.admits]; exact q4
  obtain ⟨vm₁, X₁, hstep₁⟩ := X.invokevirtual hexec hown hlink hnamed hmethM hstM hkP hkPi hy (a := b) (cell := cellB) hcell
    (fun z h => by rw [h] at hobj; cases hobj) hselP hmethM habM hkP hkPi (g := g) hg (argsL := argsL) (rest := rest) (hlen _ hsigM) hstack hdg
  obtain ⟨v, B, X', hpost, hsteps⟩ := hK m meth c ⟨T.setVm vm₁, locs, cells, slots⟩ { g with stack := rest } (.invokevirtual index) mk (Value.ref b :: argsL).toArray X₁ hg hsize hdg hW (X₁.named hnamed) (hpre vm₁ X₁.warmed)
  exact ⟨v, vm₁, B, X₁.warmed, X', hpost, fun target h => hstep₁ _ fun acts => by rw [doInvoke_state]; exact hsteps.trans h⟩
abbrev vx_CVW (R : Room) (s : State) (args : Array Value) (own C : String) (index : Nat) (y : MethodName) (bytes : ByteArray) (maxL : Nat) (ret : Option FieldType) (hh : List (Nat × Nat × Nat × Nat)) (ws : List Cond) (rm : Room) (mc ms n : Nat) : Prop :=
  (rm.cells = mc ∧ rm.slots = ms ∧ rm.frames + 1 ≤ R.frames ∧ 8 + (maxL + 11) + rm.locals ≤ R.locals ∧ (∀ w ∈ ws, ∀ (a' : Array Value) (U : State), s.WarmedH U.vm → w.before a' U = true) ∧ Cond.codeWith y bytes maxL ret hh ∈ ws) ∧
  (Cond.codeWith y bytes maxL ret hh).before args s = true ∧ (Cond.initialized y.cls).before args s = true ∧ (y.cls ≠ "java/lang/invoke/MethodHandle" ∧ y.cls ≠ "java/lang/invoke/VarHandle") ∧
  (∀ sig, parseMethodDescriptor y.desc = some sig → n = sig.parameters.length) ∧ (Cond.methodLink own index y).before args s = true ∧ (Cond.instanceMethod y).before args s = true ∧ (Cond.selects C y y).before args s = true
theorem vx_cwVW {own C : String} {index maxL mc ms : Nat} {y : MethodName} {bytes : ByteArray} {ret : Option FieldType} {hh : List (Nat × Nat × Nat × Nat)} {Ts ws ws' : List Cond} {rm : Room} (n : Nat) (ht : ∀ w ∈ Ts, w.before args s = true) (hT : GoodIn Ts (wsV own index C y ws)) (hw : ws = Cond.codeWith y bytes maxL ret hh :: ws') (hrc : rm.cells = mc) (hrs : rm.slots = ms)
    (hd : y.cls = C ∧ y.cls ≠ "java/lang/invoke/MethodHandle" ∧ y.cls ≠ "java/lang/invoke/VarHandle" ∧ (parseMethodDescriptor y.desc).map (fun d => d.parameters.length) = some n) (hR : rm.frames + 1 ≤ R.frames ∧ 8 + (maxL + 11) + rm.locals ≤ R.locals) :
    vx_CVW R s args own C index y bytes maxL ret hh ws rm mc ms n := by
  obtain ⟨hC, hd⟩ := hd
  subst hC
  have ok : ∀ w ∈ wsV own index y.cls y ws, w.before args s = true := fun w h => ht w (hT w h).1
  have hG : GoodIn Ts ws := fun w h => hT w (by unfold wsV; exact List.mem_append_right _ h)
  have hc : Cond.codeWith y bytes maxL ret hh ∈ ws := by rw [hw]; exact List.mem_cons_self
  refine ⟨⟨hrc, hrs, hR.1, hR.2, pay_in ht hG, hc⟩, ht _ (hG _ hc).1, ok _ (by simp [wsV]), ⟨hd.1, hd.2.1⟩, fun sig h => ?_, ok _ (by simp [wsV]), ok _ (by simp [wsV]), ok _ (by simp [wsV])⟩
  have h2 := hd.2.2
  rw [h] at h2
  exact (Option.some.inj h2).symm
theorem vx_runVW {y : MethodName} {bytes cc : ByteArray} {maxL nL mc ms n index : Nat} {ret : Option FieldType} {hh : List (Nat × Nat × Nat × Nat)} {ws : List Cond} {rm : Room} {Pc : Array Value → State → Prop} {Qc : Array Value → State → Outcome → State → Prop} {free : Addr → Prop} {Ts : List Cond} {own C : String} {b : Addr} {As rest : List Value} {g : JFrame}
    (S : CallFix p m c cc nL s args Ts own) (hM : Met l y ws rm Pc Qc mc ms free) (cw : vx_CVW R s args own C index y bytes maxL ret hh ws rm mc ms n) (hp : PreV s H C b Pc As)
    (hg : g.method = m) (hn : As.length = n) (hsize : g.locals.size = nL) (hstack : g.stack = As.reverse ++ .ref b :: rest) (hW : 2 * g.monitorRoom + (rest.map fun v => v.category).sum ≤ 8) (hdg : decode cc g.pc = .ok (.invokevirtual index, 3)) (hf : cells + mc ≤ R.cells ∧ slots + ms ≤ R.slots) :
    va_Run p l e R s m args below meth c H locs cells slots mc ms g rest (Qc (Value.ref b :: As).toArray) free := by
  obtain ⟨⟨hrc, hrs, hfr, hlo, hws, hcw⟩, hcode, hini, hy, hlen, hl, hin, hse⟩ := cw
  have hK : Back l R p e below s args y 3 8 (PreOf R mc ms Pc) (PostOf Qc mc ms free) := va_backW (hh := hh) (bytes := bytes) (maxL := maxL) (ret := ret) hM hp.1 hrc hrs hfr hlo hws hcw (fun a' U hW => word_at hW (Or.inl (by first | rfl | simp [Cond.onTables, Cond.keeps, Cond.steady])) hini)
  obtain ⟨hx, hb, hml, ho, -⟩ := S
  obtain ⟨-, ⟨cellB, hcB, hoB, hclB⟩, hPc⟩ := hp
  intro T hT X
  obtain ⟨v, vm₁, ⟨U', l2, c2, s2⟩, hW₁, X', ⟨g', mk, t, L, e1, e2, hq, h1, hL, h2, h3⟩, st⟩ := vx_callVW X hx (C := C) (hh := hh) (bytes := bytes) (maxL := maxL) (ret := ret) ho hl hin hse hcode hy hK (by rw [hT]; exact hcB) hoB hclB hg (hsize.trans hml.symm) (argsL := As) (rest := rest) (fun sig h => hn.trans (hlen sig h)) hstack hW (by rw [hb]; exact hdg)
    (fun vm₁ hW₁ => ⟨hf.1, hf.2, hPc (T.setVm vm₁) hT hW₁⟩)
  dsimp only [Pt.U, Pt.locs, Pt.cells, Pt.slots] at X' e1 e2 h1 h2 h3 st
  subst h1; subst h2; subst h3
  exact ⟨v, (T.setVm vm₁).calling g' mk (Value.ref b :: As).toArray, t, U', L, hT, X', hL, e1, e2, hq, st⟩
section
variable {y : MethodName} {bytes cc : ByteArray} {maxL nL mc ms n index : Nat} {ret : Option FieldType} {ws : List Cond} {rm : Room} {Pc : Array Value → State → Prop} {Qc : Array Value → State → Outcome → State → Prop} {XC : String → State → State → Prop} {free : Addr → Prop} {Ts : List Cond} {own C : String} {b : Addr} {As rest : List Value} {g : JFrame}
theorem vx_runVX {hh : List (Nat × Nat × Nat × Nat)} (S : CallFix p m c cc nL s args Ts own) (hM : vx_Met l y ws rm Pc Qc XC mc ms free) (cw : vx_CVW R s args own C index y bytes maxL ret hh ws rm mc ms n) (hp : PreV s H C b Pc As)
    (hg : g.method = m) (hn : As.length = n) (hsize : g.locals.size = nL) (hstack : g.stack = As.reverse ++ .ref b :: rest) (hW : 2 * g.monitorRoom + (rest.map fun v => v.category).sum ≤ 8) (hdg : decode cc g.pc = .ok (.invokevirtual index, 3)) (hf : cells + mc ≤ R.cells ∧ slots + ms ≤ R.slots) :
    vx_Run p l e R s m args below meth c H locs cells slots mc ms g rest (Qc (Value.ref b :: As).toArray) XC free := by
  obtain ⟨⟨hrc, hrs, hfr, hlo, hws, hcw⟩, hcode, hini, hy, hlen, hl, hin, hse⟩ := cw
  have hK : vx_Back l R p e below s args y 3 8 (PreOf R mc ms Pc) (PostOf Qc mc ms free) (vx_Post XC mc ms free) := vx_backW (hh := hh) (bytes := bytes) (maxL := maxL) (ret := ret) hM hp.1 hrc hrs hfr hlo hws hcw (fun a' U hW => word_at hW (Or.inl (by first | rfl | simp [Cond.onTables, Cond.keeps, Cond.steady])) hini)
  obtain ⟨hx, hb, hml, ho, -⟩ := S
  obtain ⟨-, ⟨cellB, hcB, hoB, hclB⟩, hPc⟩ := hp
  intro T hT X
  rcases vx_callVX X hx (C := C) (hh := hh) (bytes := bytes) (maxL := maxL) (ret := ret) ho hl hin hse hcode hy hK (by rw [hT]; exact hcB) hoB hclB hg (hsize.trans hml.symm) (argsL := As) (rest := rest) (fun sig h => hn.trans (hlen sig h)) hstack hW (by rw [hb]; exact hdg)
    (fun vm₁ hW₁ => ⟨hf.1, hf.2, hPc (T.setVm vm₁) hT hW₁⟩) with ⟨v, vm₁, ⟨U', l2, c2, s2⟩, hW₁, X', ⟨g', mk, t, L, e1, e2, hq, h1, hL, h2, h3⟩, st⟩ | ⟨q, vm₁, ⟨U', l2, c2, s2⟩, hW₁, X', ⟨g', mk, t, L, E, ce, e1, e2, hq, hce, hcv, hcl, h1, hL, h2, h3⟩, st⟩
  · dsimp only [Pt.U, Pt.locs, Pt.cells, Pt.slots] at X' e1 e2 h1 h2 h3 st
    subst h1; subst h2; subst h3
    exact Or.inl ⟨v, (T.setVm vm₁).calling g' mk (Value.ref b :: As).toArray, t, U', L, hT, X', hL, e1, e2, hq, st⟩
  · dsimp only [Pt.U, Pt.locs, Pt.cells, Pt.slots] at X' e1 e2 h1 h2 h3 st hcl
    subst h1; subst h2; subst h3
    exact Or.inr ⟨q, (T.setVm vm₁).calling g' mk (Value.ref b :: As).toArray, t, U', L, E, ce, hT, X', hL, e1, e2, hq, hce, hcv, vx_cls hW₁ hcl, st⟩
theorem vx_runSX {hh : List (Nat × Nat × Nat × Nat)} (S : CallFix p m c cc nL s args Ts own) (hM : vx_Met l y ws rm Pc Qc XC mc ms free) (cw : vx_CSW R s args own index y bytes maxL ret hh ws rm mc ms n) (hp : PreS s H Pc As)
    (hg : g.method = m) (hn : As.length = n) (hsize : g.locals.size = nL) (hstack : g.stack = As.reverse ++ rest) (hW : 2 * g.monitorRoom + (rest.map fun v => v.category).sum ≤ 8) (hdg : decode cc g.pc = .ok (.invokestatic index, 3)) (hf : cells + mc ≤ R.cells ∧ slots + ms ≤ R.slots) :
    vx_Run p l e R s m args below meth c H locs cells slots mc ms g rest (Qc As.toArray) XC free := by
  obtain ⟨⟨hrc, hrs, hfr, hlo, hws, hcw⟩, hcode, hini, hy, hlen, hl, hstt⟩ := cw
  have hK : vx_Back l R p e below s args y 3 8 (PreOf R mc ms Pc) (PostOf Qc mc ms free) (vx_Post XC mc ms free) := vx_backW (hh := hh) (bytes := bytes) (maxL := maxL) (ret := ret) hM hp.1 hrc hrs hfr hlo hws hcw (fun a' U hW => word_at hW (Or.inl (by first | rfl | simp [Cond.onTables, Cond.keeps, Cond.steady])) hini)
  obtain ⟨hx, hb, hml, ho, -⟩ := S
  intro T hT X
  rcases vx_callSX X hx (hh := hh) (bytes := bytes) (maxL := maxL) (ret := ret) ho hl hstt hini hcode hy hK hg (hsize.trans hml.symm) (argsL := As) (rest := rest) (fun sig h => hn.trans (hlen sig h)) hstack hW (by rw [hb]; exact hdg)
    (fun vm₁ hW₁ => ⟨hf.1, hf.2, hp.2 (T.setVm vm₁) hT hW₁⟩) with ⟨v, vm₁, ⟨U', l2, c2, s2⟩, hW₁, X', ⟨g', mk, t, L, e1, e2, hq, h1, hL, h2, h3⟩, st⟩ | ⟨q, vm₁, ⟨U', l2, c2, s2⟩, hW₁, X', ⟨g', mk, t, L, E, ce, e1, e2, hq, hce, hcv, hcl, h1, hL, h2, h3⟩, st⟩
  · dsimp only [Pt.U, Pt.locs, Pt.cells, Pt.slots] at X' e1 e2 h1 h2 h3 st
    subst h1; subst h2; subst h3
    exact Or.inl ⟨v, (T.setVm vm₁).calling g' mk As.toArray, t, U', L, hT, X', hL, e1, e2, hq, st⟩
  · dsimp only [Pt.U, Pt.locs, Pt.cells, Pt.slots] at X' e1 e2 h1 h2 h3 st hcl
    subst h1; subst h2; subst h3
    exact Or.inr ⟨q, (T.setVm vm₁).calling g' mk As.toArray, t, U', L, E, ce, hT, X', hL, e1, e2, hq, hce, hcv, vx_cls hW₁ hcl, st⟩
end
end VXH
theorem vx_ofWH {l : Launch} {y : MethodName} {ws ws' : List Cond} {rm : Room} {Pc : Array Value → State → Prop} {Qc : Array Value → State → Outcome → State → Prop} {XC : String → State → State → Prop} {mc ms : Nat} {free : Addr → Prop} {cc : ByteArray} {maxL : Nat} {ret : Option FieldType} {hh : List (Nat × Nat × Nat × Nat)}
    (hy : plainName y.cls = true) (hw : ws = Cond.codeWith y cc maxL ret hh :: ws')
    (body : ∀ p e s m args below meth c s₁, BodyLoose p l y (headSpec ws rm) cc maxL ret e s m args below meth c s₁ → c.maxLocals = maxL → Pc args s →
      W p l e (headSpec ws rm).room s m args below meth c s.heap [] 0 0 (vx_MQ below Qc XC args s mc ms free) (entryFrame m args maxL)) : vx_Met l y ws rm Pc Qc XC mc ms free := by
  refine MetFree.of_bodyS (code := cc) (maxLocals := maxL) (ret := ret) hy ?_ ?_
  · intro args s m h hn
    obtain ⟨m9, meth, c, hn9, h1, h2, h3, h4, -, h5, h6, -⟩ := Cond.codeWith_spec (atoms_spec (ws := ws) h _ (by rw [hw]; exact List.mem_cons_self))
    cases hn.symm.trans hn9
    exact ⟨meth, c, h1, h2, h3, h4, h5, h6⟩
  · intro p e s m args below meth c s₁ B hml hP _
    have hh0 : s₁.heap = s.heap := by rw [B.state]; rfl
    obtain ⟨t, a1, o, b1, b2, b3⟩ := body p e s m args below meth c s₁ B hml hP s₁ hh0 (Stand.of_body B)
    exact ⟨t, o, a1, b1, b2, b3⟩
/-! ===== END ===== -/
end
section
/-! ===== BEGIN printed: names, fields, word lists, decode rows ===== -/
def RX0 : String := "RenameRows$Marks"
def TX0 : u_T := fun k => match k with
  | 0 => ("RenameRows$Marks", "before", "[I", true)
  | 1 => ("RenameRows$Marks", "byTurn", "[I", true)
  | _ => ("RenameRows$Marks", "taken", "I", false)
def tyX0 : Nat → FieldType := fun k => match k with
  | 0 => .array .int
  | 1 => .array .int
  | _ => .int
abbrev wsX00 : List Cond := u_ws RX0 TX0 3
theorem nmX0 : ∀ a, a < 3 → ∀ b, b < 3 → a ≠ b → (TX0 a).2.1 ≠ (TX0 b).2.1 := by decide +kernel
theorem tyX0_ok : ∀ k, k < 3 → parseFieldDescriptor (TX0 k).2.2.1 = some (tyX0 k) := by decide +kernel
abbrev cX0_init : ByteArray := prog_2_method_1_code
def yX0_init : MethodName := ⟨RX0, "<init>", "()V"⟩
abbrev cX0_isMark : ByteArray := prog_2_method_2_code
def yX0_isMark : MethodName := ⟨RX0, "isMark", "(I)Z"⟩
abbrev cX0_isFree : ByteArray := prog_2_method_3_code
def yX0_isFree : MethodName := ⟨RX0, "isFree", "(I)Z"⟩
abbrev cX0_takenCount : ByteArray := prog_2_method_4_code
def yX0_takenCount : MethodName := ⟨RX0, "takenCount", "()I"⟩
abbrev cX0_rowsBefore : ByteArray := prog_2_method_5_code
def yX0_rowsBefore : MethodName := ⟨RX0, "rowsBefore", "(I)I"⟩
abbrev cX0_oldest : ByteArray := prog_2_method_6_code
def yX0_oldest : MethodName := ⟨RX0, "oldest", "()I"⟩
abbrev cX0_takeLowest : ByteArray := prog_2_method_7_code
def yX0_takeLowest : MethodName := ⟨RX0, "takeLowest", "(I)I"⟩
abbrev cX0_release : ByteArray := prog_2_method_8_code
def yX0_release : MethodName := ⟨RX0, "release", "(I)V"⟩
abbrev cX0_releaseFrom : ByteArray := prog_2_method_9_code
def yX0_releaseFrom : MethodName := ⟨RX0, "releaseFrom", "(I)V"⟩
abbrev cX0_turnOf : ByteArray := prog_2_method_10_code
def yX0_turnOf : MethodName := ⟨RX0, "turnOf", "(I)I"⟩
def RX1 : String := "RenameRows$Names"
def TX1 : u_T := fun k => match k with
  | 0 => ("RenameRows$Names", "held", "[I", true)
  | 1 => ("RenameRows$Names", "ready", "[Z", true)
  | 2 => ("RenameRows$Names", "queued", "[I", true)
  | 3 => ("RenameRows$Names", "first", "I", false)
  | _ => ("RenameRows$Names", "free", "I", false)
def tyX1 : Nat → FieldType := fun k => match k with
  | 0 => .array .int
  | 1 => .array .boolean
  | 2 => .array .int
  | 3 => .int
  | _ => .int
abbrev wsX10 : List Cond := u_ws RX1 TX1 5
theorem nmX1 : ∀ a, a < 5 → ∀ b, b < 5 → a ≠ b → (TX1 a).2.1 ≠ (TX1 b).2.1 := by decide +kernel
theorem tyX1_ok : ∀ k, k < 5 → parseFieldDescriptor (TX1 k).2.2.1 = some (tyX1 k) := by decide +kernel
abbrev cX1_init : ByteArray := prog_3_method_1_code
def yX1_init : MethodName := ⟨RX1, "<init>", "(II)V"⟩
abbrev cX1_total : ByteArray := prog_3_method_2_code
def yX1_total : MethodName := ⟨RX1, "total", "()I"⟩
abbrev cX1_isName : ByteArray := prog_3_method_3_code
def yX1_isName : MethodName := ⟨RX1, "isName", "(I)Z"⟩
abbrev cX1_sharesOf : ByteArray := prog_3_method_4_code
def yX1_sharesOf : MethodName := ⟨RX1, "sharesOf", "(I)I"⟩
abbrev cX1_freeCount : ByteArray := prog_3_method_5_code
def yX1_freeCount : MethodName := ⟨RX1, "freeCount", "()I"⟩
abbrev cX1_freeAt : ByteArray := prog_3_method_6_code
def yX1_freeAt : MethodName := ⟨RX1, "freeAt", "(I)I"⟩
abbrev cX1_takeFirstFree : ByteArray := prog_3_method_7_code
def yX1_takeFirstFree : MethodName := ⟨RX1, "takeFirstFree", "()I"⟩
abbrev cX1_addShare : ByteArray := prog_3_method_8_code
def yX1_addShare : MethodName := ⟨RX1, "addShare", "(I)V"⟩
abbrev cX1_giveBack : ByteArray := prog_3_method_9_code
def yX1_giveBack : MethodName := ⟨RX1, "giveBack", "(I)V"⟩
abbrev cX1_makeReady : ByteArray := prog_3_method_10_code
def yX1_makeReady : MethodName := ⟨RX1, "makeReady", "(I)V"⟩
abbrev cX1_isReadyOrNone : ByteArray := prog_3_method_11_code
def yX1_isReadyOrNone : MethodName := ⟨RX1, "isReadyOrNone", "(I)Z"⟩
abbrev cX1_slotOf : ByteArray := prog_3_method_12_code
def yX1_slotOf : MethodName := ⟨RX1, "slotOf", "(I)I"⟩
def RX2 : String := "RenameRows$Ring"
def TX2 : u_T := fun k => match k with
  | 0 => ("RenameRows$Ring", "readA", "[I", true)
  | 1 => ("RenameRows$Ring", "readB", "[I", true)
  | 2 => ("RenameRows$Ring", "given", "[I", true)
  | 3 => ("RenameRows$Ring", "known", "[I", true)
  | 4 => ("RenameRows$Ring", "register", "[I", true)
  | 5 => ("RenameRows$Ring", "port", "[I", true)
  | 6 => ("RenameRows$Ring", "state", "[I", true)
  | 7 => ("RenameRows$Ring", "oldest", "I", false)
  | 8 => ("RenameRows$Ring", "rows", "I", false)
  | _ => ("RenameRows$Ring", "done", "I", false)
def tyX2 : Nat → FieldType := fun k => match k with
  | 0 => .array .int
  | 1 => .array .int
  | 2 => .array .int
  | 3 => .array .int
  | 4 => .array .int
  | 5 => .array .int
  | 6 => .array .int
  | 7 => .int
  | 8 => .int
  | _ => .int
abbrev wsX20 : List Cond := u_ws RX2 TX2 10
theorem nmX2 : ∀ a, a < 10 → ∀ b, b < 10 → a ≠ b → (TX2 a).2.1 ≠ (TX2 b).2.1 := by decide +kernel
theorem tyX2_ok : ∀ k, k < 10 → parseFieldDescriptor (TX2 k).2.2.1 = some (tyX2 k) := by decide +kernel
abbrev cX2_init : ByteArray := prog_4_method_1_code
def yX2_init : MethodName := ⟨RX2, "<init>", "(I)V"⟩
abbrev cX2_placeCount : ByteArray := prog_4_method_2_code
def yX2_placeCount : MethodName := ⟨RX2, "placeCount", "()I"⟩
abbrev cX2_rowCount : ByteArray := prog_4_method_3_code
def yX2_rowCount : MethodName := ⟨RX2, "rowCount", "()I"⟩
abbrev cX2_doneCount : ByteArray := prog_4_method_4_code
def yX2_doneCount : MethodName := ⟨RX2, "doneCount", "()I"⟩
abbrev cX2_rowsSinceBeginning : ByteArray := prog_4_method_5_code
def yX2_rowsSinceBeginning : MethodName := ⟨RX2, "rowsSinceBeginning", "()I"⟩
abbrev cX2_isFull : ByteArray := prog_4_method_6_code
def yX2_isFull : MethodName := ⟨RX2, "isFull", "()Z"⟩
abbrev cX2_isPlace : ByteArray := prog_4_method_7_code
def yX2_isPlace : MethodName := ⟨RX2, "isPlace", "(I)Z"⟩
abbrev cX2_holdsRow : ByteArray := prog_4_method_8_code
def yX2_holdsRow : MethodName := ⟨RX2, "holdsRow", "(I)Z"⟩
abbrev cX2_isInState : ByteArray := prog_4_method_9_code
def yX2_isInState : MethodName := ⟨RX2, "isInState", "(II)Z"⟩
abbrev cX2_oldestPlace : ByteArray := prog_4_method_10_code
def yX2_oldestPlace : MethodName := ⟨RX2, "oldestPlace", "()I"⟩
abbrev cX2_lastPlace : ByteArray := prog_4_method_11_code
def yX2_lastPlace : MethodName := ⟨RX2, "lastPlace", "()I"⟩
abbrev cX2_placeOfAge : ByteArray := prog_4_method_12_code
def yX2_placeOfAge : MethodName := ⟨RX2, "placeOfAge", "(I)I"⟩
abbrev cX2_ageOf : ByteArray := prog_4_method_13_code
def yX2_ageOf : MethodName := ⟨RX2, "ageOf", "(I)I"⟩
abbrev cX2_append : ByteArray := prog_4_method_14_code
def yX2_append : MethodName := ⟨RX2, "append", "(IIIIII)I"⟩
abbrev cX2_dropOldest : ByteArray := prog_4_method_15_code
def yX2_dropOldest : MethodName := ⟨RX2, "dropOldest", "()V"⟩
abbrev cX2_dropLast : ByteArray := prog_4_method_16_code
def yX2_dropLast : MethodName := ⟨RX2, "dropLast", "()V"⟩
abbrev cX2_readAAt : ByteArray := prog_4_method_17_code
def yX2_readAAt : MethodName := ⟨RX2, "readAAt", "(I)I"⟩
abbrev cX2_readBAt : ByteArray := prog_4_method_18_code
def yX2_readBAt : MethodName := ⟨RX2, "readBAt", "(I)I"⟩
abbrev cX2_givenAt : ByteArray := prog_4_method_19_code
def yX2_givenAt : MethodName := ⟨RX2, "givenAt", "(I)I"⟩
abbrev cX2_knownAt : ByteArray := prog_4_method_20_code
def yX2_knownAt : MethodName := ⟨RX2, "knownAt", "(I)I"⟩
abbrev cX2_registerAt : ByteArray := prog_4_method_21_code
def yX2_registerAt : MethodName := ⟨RX2, "registerAt", "(I)I"⟩
abbrev cX2_portAt : ByteArray := prog_4_method_22_code
def yX2_portAt : MethodName := ⟨RX2, "portAt", "(I)I"⟩
abbrev cX2_stateAt : ByteArray := prog_4_method_23_code
def yX2_stateAt : MethodName := ⟨RX2, "stateAt", "(I)I"⟩
abbrev cX2_setPort : ByteArray := prog_4_method_24_code
def yX2_setPort : MethodName := ⟨RX2, "setPort", "(II)V"⟩
abbrev cX2_setState : ByteArray := prog_4_method_25_code
def yX2_setState : MethodName := ⟨RX2, "setState", "(II)V"⟩
def RX3 : String := "RenameRows"
def TX3 : u_T := fun k => match k with
  | 0 => ("RenameRows", "names", "LRenameRows$Names;", true)
  | 1 => ("RenameRows", "ring", "LRenameRows$Ring;", true)
  | 2 => ("RenameRows", "marks", "LRenameRows$Marks;", true)
  | 3 => ("RenameRows", "nameNow", "[I", true)
  | 4 => ("RenameRows", "nameSure", "[I", true)
  | 5 => ("RenameRows", "wentTo", "[I", true)
  | 6 => ("RenameRows", "takenBack", "I", false)
  | 7 => ("RenameRows", "wantsOfPlace", "I", false)
  | _ => ("RenameRows", "wantsOfName", "I", false)
def tyX3 : Nat → FieldType := fun k => match k with
  | 0 => .object "RenameRows$Names"
  | 1 => .object "RenameRows$Ring"
  | 2 => .object "RenameRows$Marks"
  | 3 => .array .int
  | 4 => .array .int
  | 5 => .array .int
  | 6 => .int
  | 7 => .int
  | _ => .int
abbrev wsX30 : List Cond := u_ws RX3 TX3 9
theorem nmX3 : ∀ a, a < 9 → ∀ b, b < 9 → a ≠ b → (TX3 a).2.1 ≠ (TX3 b).2.1 := by decide +kernel
theorem tyX3_ok : ∀ k, k < 9 → parseFieldDescriptor (TX3 k).2.2.1 = some (tyX3 k) := by decide +kernel
abbrev cX3_init : ByteArray := prog_1_method_1_code
def yX3_init : MethodName := ⟨RX3, "<init>", "(III)V"⟩
abbrev cX3_dispatch : ByteArray := prog_1_method_2_code
def yX3_dispatch : MethodName := ⟨RX3, "dispatch", "(III)I"⟩
abbrev cX3_move : ByteArray := prog_1_method_3_code
def yX3_move : MethodName := ⟨RX3, "move", "(II)I"⟩
abbrev cX3_port : ByteArray := prog_1_method_4_code
def yX3_port : MethodName := ⟨RX3, "port", "(II)I"⟩
abbrev cX3_select : ByteArray := prog_1_method_5_code
def yX3_select : MethodName := ⟨RX3, "select", "(I)I"⟩
abbrev cX3_selected : ByteArray := prog_1_method_6_code
def yX3_selected : MethodName := ⟨RX3, "selected", "(I)I"⟩
abbrev cX3_end : ByteArray := prog_1_method_7_code
def yX3_end : MethodName := ⟨RX3, "end", "(I)I"⟩
abbrev cX3_commit : ByteArray := prog_1_method_8_code
def yX3_commit : MethodName := ⟨RX3, "commit", "(I)I"⟩
abbrev cX3_branch : ByteArray := prog_1_method_9_code
def yX3_branch : MethodName := ⟨RX3, "branch", "()I"⟩
abbrev cX3_right : ByteArray := prog_1_method_10_code
def yX3_right : MethodName := ⟨RX3, "right", "(I)I"⟩
abbrev cX3_wrong : ByteArray := prog_1_method_11_code
def yX3_wrong : MethodName := ⟨RX3, "wrong", "(I)I"⟩
abbrev cX3_name : ByteArray := prog_1_method_12_code
def yX3_name : MethodName := ⟨RX3, "name", "(I)I"⟩
abbrev cX3_sure : ByteArray := prog_1_method_13_code
def yX3_sure : MethodName := ⟨RX3, "sure", "(I)I"⟩
abbrev cX3_shares : ByteArray := prog_1_method_14_code
def yX3_shares : MethodName := ⟨RX3, "shares", "(I)I"⟩
abbrev cX3_queue : ByteArray := prog_1_method_15_code
def yX3_queue : MethodName := ⟨RX3, "queue", "(I)I"⟩
abbrev cX3_row : ByteArray := prog_1_method_16_code
def yX3_row : MethodName := ⟨RX3, "row", "(II)I"⟩
abbrev cX3_count : ByteArray := prog_1_method_17_code
def yX3_count : MethodName := ⟨RX3, "count", "(I)I"⟩
abbrev cX3_oneToSize : ByteArray := prog_1_method_18_code
def yX3_oneToSize : MethodName := ⟨RX3, "oneToSize", "(II)I"⟩
abbrev cX3_isRegister : ByteArray := prog_1_method_19_code
def yX3_isRegister : MethodName := ⟨RX3, "isRegister", "(I)Z"⟩
abbrev cX3_isRegisterOrNone : ByteArray := prog_1_method_20_code
def yX3_isRegisterOrNone : MethodName := ⟨RX3, "isRegisterOrNone", "(I)Z"⟩
abbrev cX3_currentName : ByteArray := prog_1_method_21_code
def yX3_currentName : MethodName := ⟨RX3, "currentName", "(I)I"⟩
abbrev cX3_appendRow : ByteArray := prog_1_method_22_code
def yX3_appendRow : MethodName := ⟨RX3, "appendRow", "(IIIII)I"⟩
abbrev cX3_isAble : ByteArray := prog_1_method_23_code
def yX3_isAble : MethodName := ⟨RX3, "isAble", "(I)Z"⟩
abbrev cX3_oldestAbleFor : ByteArray := prog_1_method_24_code
def yX3_oldestAbleFor : MethodName := ⟨RX3, "oldestAbleFor", "(I)I"⟩
abbrev cX3_countAble : ByteArray := prog_1_method_25_code
def yX3_countAble : MethodName := ⟨RX3, "countAble", "()I"⟩
abbrev cX3_rowsBeforeOldestMark : ByteArray := prog_1_method_26_code
def yX3_rowsBeforeOldestMark : MethodName := ⟨RX3, "rowsBeforeOldestMark", "()I"⟩
abbrev cX3_finishOldest : ByteArray := prog_1_method_27_code
def yX3_finishOldest : MethodName := ⟨RX3, "finishOldest", "()V"⟩
abbrev cX3_takeBackLast : ByteArray := prog_1_method_28_code
def yX3_takeBackLast : MethodName := ⟨RX3, "takeBackLast", "()V"⟩
def RX4 : String := "RenameRowsModel"
def TX4 : u_T := fun k => match k with
  | 0 => ("RenameRowsModel", "thrown", "I", false)
  | 1 => ("RenameRowsModel", "registers", "I", true)
  | 2 => ("RenameRowsModel", "names", "I", true)
  | 3 => ("RenameRowsModel", "places", "I", true)
  | 4 => ("RenameRowsModel", "name", "[I", true)
  | 5 => ("RenameRowsModel", "sure", "[I", true)
  | 6 => ("RenameRowsModel", "shares", "[I", true)
  | 7 => ("RenameRowsModel", "ready", "[Z", true)
  | 8 => ("RenameRowsModel", "queue", "[I", true)
  | 9 => ("RenameRowsModel", "free", "I", false)
  | 10 => ("RenameRowsModel", "rows", "I", false)
  | 11 => ("RenameRowsModel", "head", "I", false)
  | 12 => ("RenameRowsModel", "first", "[I", true)
  | 13 => ("RenameRowsModel", "second", "[I", true)
  | 14 => ("RenameRowsModel", "gave", "[I", true)
  | 15 => ("RenameRowsModel", "knew", "[I", true)
  | 16 => ("RenameRowsModel", "register", "[I", true)
  | 17 => ("RenameRowsModel", "ports", "[I", true)
  | 18 => ("RenameRowsModel", "state", "[I", true)
  | 19 => ("RenameRowsModel", "marked", "[Z", true)
  | 20 => ("RenameRowsModel", "before", "[I", true)
  | 21 => ("RenameRowsModel", "age", "[I", true)
  | 22 => ("RenameRowsModel", "branches", "I", false)
  | 23 => ("RenameRowsModel", "marks", "I", false)
  | 24 => ("RenameRowsModel", "went", "[I", true)
  | 25 => ("RenameRowsModel", "done", "I", false)
  | 26 => ("RenameRowsModel", "back", "I", false)
  | 27 => ("RenameRowsModel", "noPlace", "I", false)
  | _ => ("RenameRowsModel", "noName", "I", false)
def tyX4 : Nat → FieldType := fun k => match k with
  | 0 => .int
  | 1 => .int
  | 2 => .int
  | 3 => .int
  | 4 => .array .int
  | 5 => .array .int
  | 6 => .array .int
  | 7 => .array .boolean
  | 8 => .array .int
  | 9 => .int
  | 10 => .int
  | 11 => .int
  | 12 => .array .int
  | 13 => .array .int
  | 14 => .array .int
  | 15 => .array .int
  | 16 => .array .int
  | 17 => .array .int
  | 18 => .array .int
  | 19 => .array .boolean
  | 20 => .array .int
  | 21 => .array .int
  | 22 => .int
  | 23 => .int
  | 24 => .array .int
  | 25 => .int
  | 26 => .int
  | 27 => .int
  | _ => .int
abbrev wsX40 : List Cond := u_ws RX4 TX4 29
theorem nmX4 : ∀ a, a < 29 → ∀ b, b < 29 → a ≠ b → (TX4 a).2.1 ≠ (TX4 b).2.1 := by decide +kernel
theorem tyX4_ok : ∀ k, k < 29 → parseFieldDescriptor (TX4 k).2.2.1 = some (tyX4 k) := by decide +kernel
abbrev cX4_init : ByteArray := prog_6_method_1_code
def yX4_init : MethodName := ⟨RX4, "<init>", "(III)V"⟩
abbrev cX4_rest : ByteArray := prog_6_method_2_code
def yX4_rest : MethodName := ⟨RX4, "rest", "(II)I"⟩
abbrev cX4_thrown : ByteArray := prog_6_method_3_code
def yX4_thrown : MethodName := ⟨RX4, "thrown", "()I"⟩
abbrev cX4_throwing : ByteArray := prog_6_method_4_code
def yX4_throwing : MethodName := ⟨RX4, "throwing", "(ZZZ)Z"⟩
abbrev cX4_isRegister : ByteArray := prog_6_method_5_code
def yX4_isRegister : MethodName := ⟨RX4, "isRegister", "(I)Z"⟩
abbrev cX4_isReady : ByteArray := prog_6_method_6_code
def yX4_isReady : MethodName := ⟨RX4, "isReady", "(I)Z"⟩
abbrev cX4_mayGo : ByteArray := prog_6_method_7_code
def yX4_mayGo : MethodName := ⟨RX4, "mayGo", "(I)Z"⟩
abbrev cX4_placeOf : ByteArray := prog_6_method_8_code
def yX4_placeOf : MethodName := ⟨RX4, "placeOf", "(I)I"⟩
abbrev cX4_at : ByteArray := prog_6_method_9_code
def yX4_at : MethodName := ⟨RX4, "at", "(I)I"⟩
abbrev cX4_isPlace : ByteArray := prog_6_method_10_code
def yX4_isPlace : MethodName := ⟨RX4, "isPlace", "(I)Z"⟩
abbrev cX4_giveBack : ByteArray := prog_6_method_11_code
def yX4_giveBack : MethodName := ⟨RX4, "giveBack", "(I)V"⟩
abbrev cX4_takeName : ByteArray := prog_6_method_12_code
def yX4_takeName : MethodName := ⟨RX4, "takeName", "()I"⟩
abbrev cX4_add : ByteArray := prog_6_method_13_code
def yX4_add : MethodName := ⟨RX4, "add", "(IIIII)I"⟩
abbrev cX4_dispatch : ByteArray := prog_6_method_14_code
def yX4_dispatch : MethodName := ⟨RX4, "dispatch", "(III)I"⟩
abbrev cX4_move : ByteArray := prog_6_method_15_code
def yX4_move : MethodName := ⟨RX4, "move", "(II)I"⟩
abbrev cX4_port : ByteArray := prog_6_method_16_code
def yX4_port : MethodName := ⟨RX4, "port", "(II)I"⟩
abbrev cX4_select : ByteArray := prog_6_method_17_code
def yX4_select : MethodName := ⟨RX4, "select", "(I)I"⟩
abbrev cX4_selected : ByteArray := prog_6_method_18_code
def yX4_selected : MethodName := ⟨RX4, "selected", "(I)I"⟩
abbrev cX4_mayGoAll : ByteArray := prog_6_method_19_code
def yX4_mayGoAll : MethodName := ⟨RX4, "mayGoAll", "()I"⟩
abbrev cX4_end : ByteArray := prog_6_method_20_code
def yX4_end : MethodName := ⟨RX4, "end", "(I)I"⟩
abbrev cX4_shift : ByteArray := prog_6_method_21_code
def yX4_shift : MethodName := ⟨RX4, "shift", "()V"⟩
abbrev cX4_bound : ByteArray := prog_6_method_22_code
def yX4_bound : MethodName := ⟨RX4, "bound", "()I"⟩
abbrev cX4_commit : ByteArray := prog_6_method_23_code
def yX4_commit : MethodName := ⟨RX4, "commit", "(I)I"⟩
abbrev cX4_branch : ByteArray := prog_6_method_24_code
def yX4_branch : MethodName := ⟨RX4, "branch", "()I"⟩
abbrev cX4_isMark : ByteArray := prog_6_method_25_code
def yX4_isMark : MethodName := ⟨RX4, "isMark", "(I)Z"⟩
abbrev cX4_drop : ByteArray := prog_6_method_26_code
def yX4_drop : MethodName := ⟨RX4, "drop", "(I)V"⟩
abbrev cX4_right : ByteArray := prog_6_method_27_code
def yX4_right : MethodName := ⟨RX4, "right", "(I)I"⟩
abbrev cX4_wrong : ByteArray := prog_6_method_28_code
def yX4_wrong : MethodName := ⟨RX4, "wrong", "(I)I"⟩
abbrev cX4_name : ByteArray := prog_6_method_29_code
def yX4_name : MethodName := ⟨RX4, "name", "(I)I"⟩
abbrev cX4_sure : ByteArray := prog_6_method_30_code
def yX4_sure : MethodName := ⟨RX4, "sure", "(I)I"⟩
abbrev cX4_shares : ByteArray := prog_6_method_31_code
def yX4_shares : MethodName := ⟨RX4, "shares", "(I)I"⟩
abbrev cX4_queue : ByteArray := prog_6_method_32_code
def yX4_queue : MethodName := ⟨RX4, "queue", "(I)I"⟩
abbrev cX4_row : ByteArray := prog_6_method_33_code
def yX4_row : MethodName := ⟨RX4, "row", "(II)I"⟩
abbrev cX4_count : ByteArray := prog_6_method_34_code
def yX4_count : MethodName := ⟨RX4, "count", "(I)I"⟩
def RJx00060 : String := "java/lang/ArrayIndexOutOfBoundsException"
def TJx00060 : u_T := fun k => match k with
  | 0 => ("java/lang/Throwable", "cause", "Ljava/lang/Throwable;", false)
  | 1 => ("java/lang/Throwable", "stackTrace", "[Ljava/lang/StackTraceElement;", false)
  | 2 => ("java/lang/Throwable", "suppressedExceptions", "Ljava/util/List;", false)
  | 3 => ("java/lang/Throwable", "detailMessage", "Ljava/lang/String;", false)
  | 4 => ("java/lang/Throwable", "backtrace", "Ljava/lang/Object;", false)
  | _ => ("java/lang/Throwable", "depth", "I", false)
def tyJx00060 : Nat → FieldType := fun k => match k with
  | 0 => .object "java/lang/Throwable"
  | 1 => .array (.object "java/lang/StackTraceElement")
  | 2 => .object "java/util/List"
  | 3 => .object "java/lang/String"
  | 4 => .object "java/lang/Object"
  | _ => .int
abbrev wsJx000600 : List Cond := u_ws RJx00060 TJx00060 6
theorem nmJx00060 : ∀ a, a < 6 → ∀ b, b < 6 → a ≠ b → (TJx00060 a).2.1 ≠ (TJx00060 b).2.1 := by decide +kernel
theorem tyJx00060_ok : ∀ k, k < 6 → parseFieldDescriptor (TJx00060 k).2.2.1 = some (tyJx00060 k) := by decide +kernel
abbrev cJx00060_init_a7421 : ByteArray := prog_7_method_2_code
def yJx00060_init_a7421 : MethodName := ⟨RJx00060, "<init>", "(Ljava/lang/String;)V"⟩
def RJ9 : String := "java/lang/Math"
def TJ9 : u_T := fun k => match k with
  | _ => ("", "", "", false)
def tyJ9 : Nat → FieldType := fun k => match k with
  | _ => .int
abbrev wsJ90 : List Cond := u_ws RJ9 TJ9 0
theorem nmJ9 : ∀ a, a < 0 → ∀ b, b < 0 → a ≠ b → (TJ9 a).2.1 ≠ (TJ9 b).2.1 := by decide +kernel
theorem tyJ9_ok : ∀ k, k < 0 → parseFieldDescriptor (TJ9 k).2.2.1 = some (tyJ9 k) := by decide +kernel
abbrev cJ9_min_7cf53 : ByteArray := prog_12_method_69_code
def yJ9_min_7cf53 : MethodName := ⟨RJ9, "min", "(II)I"⟩
def RJ0 : String := "java/lang/String"
def TJ0 : u_T := fun k => match k with
  | _ => ("", "", "", false)
def tyJ0 : Nat → FieldType := fun k => match k with
  | _ => .int
abbrev wsJ00 : List Cond := u_ws RJ0 TJ0 0
theorem nmJ0 : ∀ a, a < 0 → ∀ b, b < 0 → a ≠ b → (TJ0 a).2.1 ≠ (TJ0 b).2.1 := by decide +kernel
theorem tyJ0_ok : ∀ k, k < 0 → parseFieldDescriptor (TJ0 k).2.2.1 = some (tyJ0 k) := by decide +kernel
def RL : String := "RenameRowsLaw"
abbrev cL_cell : ByteArray := method_2_code
def yL_cell : MethodName := ⟨RL, "cell", "([II)I"⟩
abbrev cL_dispatch : ByteArray := method_3_code
def yL_dispatch : MethodName := ⟨RL, "dispatch", "(LRenameRows;III[J)I"⟩
abbrev cL_move : ByteArray := method_4_code
def yL_move : MethodName := ⟨RL, "move", "(LRenameRows;II[J)I"⟩
abbrev cL_port : ByteArray := method_5_code
def yL_port : MethodName := ⟨RL, "port", "(LRenameRows;II[J)I"⟩
abbrev cL_select : ByteArray := method_6_code
def yL_select : MethodName := ⟨RL, "select", "(LRenameRows;I[J)I"⟩
abbrev cL_selected : ByteArray := method_7_code
def yL_selected : MethodName := ⟨RL, "selected", "(LRenameRows;I[J)I"⟩
abbrev cL_end : ByteArray := method_8_code
def yL_end : MethodName := ⟨RL, "end", "(LRenameRows;I[J)I"⟩
abbrev cL_commit : ByteArray := method_9_code
def yL_commit : MethodName := ⟨RL, "commit", "(LRenameRows;I[J)I"⟩
abbrev cL_right : ByteArray := method_10_code
def yL_right : MethodName := ⟨RL, "right", "(LRenameRows;I[J)I"⟩
abbrev cL_wrong : ByteArray := method_11_code
def yL_wrong : MethodName := ⟨RL, "wrong", "(LRenameRows;I[J)I"⟩
abbrev cL_name : ByteArray := method_12_code
def yL_name : MethodName := ⟨RL, "name", "(LRenameRows;I[J)I"⟩
abbrev cL_sure : ByteArray := method_13_code
def yL_sure : MethodName := ⟨RL, "sure", "(LRenameRows;I[J)I"⟩
abbrev cL_shares : ByteArray := method_14_code
def yL_shares : MethodName := ⟨RL, "shares", "(LRenameRows;I[J)I"⟩
abbrev cL_queue : ByteArray := method_15_code
def yL_queue : MethodName := ⟨RL, "queue", "(LRenameRows;I[J)I"⟩
abbrev cL_row : ByteArray := method_16_code
def yL_row : MethodName := ⟨RL, "row", "(LRenameRows;II[J)I"⟩
abbrev cL_law : ByteArray := code
def yL_law : MethodName := ⟨RL, "law", "([I)Z"⟩
def wsX0_init : List Cond := .code yX0_init cX0_init 1 none :: ([.methodLink RX0 3 objectInit, .instanceMethod objectInit, .code objectInit ⟨#[0xb1]⟩ 1 none, .arrayClass .int, .fieldLink RX0 9 "RenameRows$Marks" "before" "[I", .fieldLink RX0 15 "RenameRows$Marks" "byTurn" "[I"] ++ wsX00)
def wsX0_isMark : List Cond := .code yX0_isMark cX0_isMark 2 (some .boolean) :: ([])
def wsX0_turnOf : List Cond := .code yX0_turnOf cX0_turnOf 3 (some .int) :: ([.fieldLink RX0 22 "RenameRows$Marks" "taken" "I", .fieldLink RX0 15 "RenameRows$Marks" "byTurn" "[I"] ++ wsX00)
def wsX0_isFree : List Cond := .code yX0_isFree cX0_isFree 2 (some .boolean) :: ([.methodLink RX0 18 yX0_turnOf, .instanceMethod yX0_turnOf, .selects RX0 yX0_turnOf yX0_turnOf, .initialized RX0, .code yX0_turnOf cX0_turnOf 3 (some .int), .fieldLink RX0 22 "RenameRows$Marks" "taken" "I", .fieldLink RX0 15 "RenameRows$Marks" "byTurn" "[I"] ++ wsX00)
def wsX0_takenCount : List Cond := .code yX0_takenCount cX0_takenCount 1 (some .int) :: ([.fieldLink RX0 22 "RenameRows$Marks" "taken" "I"] ++ wsX00)
def wsX0_rowsBefore : List Cond := .code yX0_rowsBefore cX0_rowsBefore 2 (some .int) :: ([.fieldLink RX0 9 "RenameRows$Marks" "before" "[I", .methodLink RX0 26 yX0_isMark, .instanceMethod yX0_isMark, .selects RX0 yX0_isMark yX0_isMark, .initialized RX0, .code yX0_isMark cX0_isMark 2 (some .boolean)] ++ wsX00)
def wsX0_oldest : List Cond := .code yX0_oldest cX0_oldest 1 (some .int) :: ([.fieldLink RX0 22 "RenameRows$Marks" "taken" "I", .fieldLink RX0 15 "RenameRows$Marks" "byTurn" "[I"] ++ wsX00)
def wsX0_takeLowest : List Cond := .code yX0_takeLowest cX0_takeLowest 3 (some .int) :: ([.fieldLink RX0 22 "RenameRows$Marks" "taken" "I", .fieldLink RX0 9 "RenameRows$Marks" "before" "[I", .fieldLink RX0 15 "RenameRows$Marks" "byTurn" "[I", .methodLink RX0 30 yX0_isFree, .instanceMethod yX0_isFree, .selects RX0 yX0_isFree yX0_isFree, .initialized RX0, .code yX0_isFree cX0_isFree 2 (some .boolean), .methodLink RX0 18 yX0_turnOf, .instanceMethod yX0_turnOf, .selects RX0 yX0_turnOf yX0_turnOf, .code yX0_turnOf cX0_turnOf 3 (some .int)] ++ wsX00)
def wsX0_release : List Cond := .code yX0_release cX0_release 4 none :: ([.fieldLink RX0 22 "RenameRows$Marks" "taken" "I", .fieldLink RX0 15 "RenameRows$Marks" "byTurn" "[I", .methodLink RX0 18 yX0_turnOf, .instanceMethod yX0_turnOf, .selects RX0 yX0_turnOf yX0_turnOf, .initialized RX0, .code yX0_turnOf cX0_turnOf 3 (some .int)] ++ wsX00)
def wsX0_releaseFrom : List Cond := .code yX0_releaseFrom cX0_releaseFrom 3 none :: ([.fieldLink RX0 22 "RenameRows$Marks" "taken" "I", .methodLink RX0 18 yX0_turnOf, .instanceMethod yX0_turnOf, .selects RX0 yX0_turnOf yX0_turnOf, .initialized RX0, .code yX0_turnOf cX0_turnOf 3 (some .int), .fieldLink RX0 15 "RenameRows$Marks" "byTurn" "[I"] ++ wsX00)
def wsX1_init : List Cond := .code yX1_init cX1_init 5 none :: ([.methodLink RX1 3 objectInit, .instanceMethod objectInit, .code objectInit ⟨#[0xb1]⟩ 1 none, .arrayClass .int, .fieldLink RX1 9 "RenameRows$Names" "held" "[I", .arrayClass .boolean, .fieldLink RX1 15 "RenameRows$Names" "ready" "[Z", .fieldLink RX1 19 "RenameRows$Names" "queued" "[I", .fieldLink RX1 22 "RenameRows$Names" "free" "I"] ++ wsX10)
def wsX1_total : List Cond := .code yX1_total cX1_total 1 (some .int) :: ([.fieldLink RX1 9 "RenameRows$Names" "held" "[I"] ++ wsX10)
def wsX1_isName : List Cond := .code yX1_isName cX1_isName 2 (some .boolean) :: ([.fieldLink RX1 9 "RenameRows$Names" "held" "[I"] ++ wsX10)
def wsX1_sharesOf : List Cond := .code yX1_sharesOf cX1_sharesOf 2 (some .int) :: ([.fieldLink RX1 9 "RenameRows$Names" "held" "[I", .methodLink RX1 26 yX1_isName, .instanceMethod yX1_isName, .selects RX1 yX1_isName yX1_isName, .initialized RX1, .code yX1_isName cX1_isName 2 (some .boolean)] ++ wsX10)
def wsX1_freeCount : List Cond := .code yX1_freeCount cX1_freeCount 1 (some .int) :: ([.fieldLink RX1 22 "RenameRows$Names" "free" "I"] ++ wsX10)
def wsX1_slotOf : List Cond := .code yX1_slotOf cX1_slotOf 3 (some .int) :: ([.fieldLink RX1 34 "RenameRows$Names" "first" "I", .fieldLink RX1 19 "RenameRows$Names" "queued" "[I"] ++ wsX10)
def wsX1_freeAt : List Cond := .code yX1_freeAt cX1_freeAt 2 (some .int) :: ([.fieldLink RX1 22 "RenameRows$Names" "free" "I", .fieldLink RX1 19 "RenameRows$Names" "queued" "[I", .methodLink RX1 30 yX1_slotOf, .instanceMethod yX1_slotOf, .selects RX1 yX1_slotOf yX1_slotOf, .initialized RX1, .code yX1_slotOf cX1_slotOf 3 (some .int), .fieldLink RX1 34 "RenameRows$Names" "first" "I"] ++ wsX10)
def wsX1_takeFirstFree : List Cond := .code yX1_takeFirstFree cX1_takeFirstFree 2 (some .int) :: ([.fieldLink RX1 22 "RenameRows$Names" "free" "I", .fieldLink RX1 19 "RenameRows$Names" "queued" "[I", .fieldLink RX1 34 "RenameRows$Names" "first" "I", .fieldLink RX1 9 "RenameRows$Names" "held" "[I", .fieldLink RX1 15 "RenameRows$Names" "ready" "[Z", .methodLink RX1 30 yX1_slotOf, .instanceMethod yX1_slotOf, .selects RX1 yX1_slotOf yX1_slotOf, .initialized RX1, .code yX1_slotOf cX1_slotOf 3 (some .int)] ++ wsX10)
def wsX1_addShare : List Cond := .code yX1_addShare cX1_addShare 2 none :: ([.fieldLink RX1 9 "RenameRows$Names" "held" "[I", .methodLink RX1 26 yX1_isName, .instanceMethod yX1_isName, .selects RX1 yX1_isName yX1_isName, .initialized RX1, .code yX1_isName cX1_isName 2 (some .boolean)] ++ wsX10)
def wsX1_giveBack : List Cond := .code yX1_giveBack cX1_giveBack 2 none :: ([.fieldLink RX1 9 "RenameRows$Names" "held" "[I", .fieldLink RX1 19 "RenameRows$Names" "queued" "[I", .fieldLink RX1 22 "RenameRows$Names" "free" "I", .methodLink RX1 26 yX1_isName, .instanceMethod yX1_isName, .selects RX1 yX1_isName yX1_isName, .initialized RX1, .code yX1_isName cX1_isName 2 (some .boolean), .methodLink RX1 30 yX1_slotOf, .instanceMethod yX1_slotOf, .selects RX1 yX1_slotOf yX1_slotOf, .code yX1_slotOf cX1_slotOf 3 (some .int), .fieldLink RX1 34 "RenameRows$Names" "first" "I"] ++ wsX10)
def wsX1_makeReady : List Cond := .code yX1_makeReady cX1_makeReady 2 none :: ([.fieldLink RX1 15 "RenameRows$Names" "ready" "[Z", .methodLink RX1 26 yX1_isName, .instanceMethod yX1_isName, .selects RX1 yX1_isName yX1_isName, .initialized RX1, .code yX1_isName cX1_isName 2 (some .boolean), .fieldLink RX1 9 "RenameRows$Names" "held" "[I"] ++ wsX10)
def wsX1_isReadyOrNone : List Cond := .code yX1_isReadyOrNone cX1_isReadyOrNone 2 (some .boolean) :: ([.fieldLink RX1 15 "RenameRows$Names" "ready" "[Z", .methodLink RX1 26 yX1_isName, .instanceMethod yX1_isName, .selects RX1 yX1_isName yX1_isName, .initialized RX1, .code yX1_isName cX1_isName 2 (some .boolean), .fieldLink RX1 9 "RenameRows$Names" "held" "[I"] ++ wsX10)
def wsX2_init : List Cond := .code yX2_init cX2_init 2 none :: ([.methodLink RX2 3 objectInit, .instanceMethod objectInit, .code objectInit ⟨#[0xb1]⟩ 1 none, .arrayClass .int, .fieldLink RX2 9 "RenameRows$Ring" "readA" "[I", .fieldLink RX2 15 "RenameRows$Ring" "readB" "[I", .fieldLink RX2 18 "RenameRows$Ring" "given" "[I", .fieldLink RX2 21 "RenameRows$Ring" "known" "[I", .fieldLink RX2 24 "RenameRows$Ring" "register" "[I", .fieldLink RX2 27 "RenameRows$Ring" "port" "[I", .fieldLink RX2 30 "RenameRows$Ring" "state" "[I"] ++ wsX20)
def wsX2_placeCount : List Cond := .code yX2_placeCount cX2_placeCount 1 (some .int) :: ([.fieldLink RX2 30 "RenameRows$Ring" "state" "[I"] ++ wsX20)
def wsX2_rowCount : List Cond := .code yX2_rowCount cX2_rowCount 1 (some .int) :: ([.fieldLink RX2 33 "RenameRows$Ring" "rows" "I"] ++ wsX20)
def wsX2_doneCount : List Cond := .code yX2_doneCount cX2_doneCount 1 (some .int) :: ([.fieldLink RX2 37 "RenameRows$Ring" "done" "I"] ++ wsX20)
def wsX2_rowsSinceBeginning : List Cond := .code yX2_rowsSinceBeginning cX2_rowsSinceBeginning 1 (some .int) :: ([.fieldLink RX2 37 "RenameRows$Ring" "done" "I", .fieldLink RX2 33 "RenameRows$Ring" "rows" "I"] ++ wsX20)
def wsX2_isFull : List Cond := .code yX2_isFull cX2_isFull 1 (some .boolean) :: ([.fieldLink RX2 33 "RenameRows$Ring" "rows" "I", .fieldLink RX2 30 "RenameRows$Ring" "state" "[I"] ++ wsX20)
def wsX2_isPlace : List Cond := .code yX2_isPlace cX2_isPlace 2 (some .boolean) :: ([.fieldLink RX2 30 "RenameRows$Ring" "state" "[I"] ++ wsX20)
def wsX2_ageOf : List Cond := .code yX2_ageOf cX2_ageOf 2 (some .int) :: ([.fieldLink RX2 51 "RenameRows$Ring" "oldest" "I", .fieldLink RX2 30 "RenameRows$Ring" "state" "[I"] ++ wsX20)
def wsX2_holdsRow : List Cond := .code yX2_holdsRow cX2_holdsRow 2 (some .boolean) :: ([.fieldLink RX2 33 "RenameRows$Ring" "rows" "I", .methodLink RX2 40 yX2_isPlace, .instanceMethod yX2_isPlace, .selects RX2 yX2_isPlace yX2_isPlace, .initialized RX2, .code yX2_isPlace cX2_isPlace 2 (some .boolean), .fieldLink RX2 30 "RenameRows$Ring" "state" "[I", .methodLink RX2 44 yX2_ageOf, .instanceMethod yX2_ageOf, .selects RX2 yX2_ageOf yX2_ageOf, .code yX2_ageOf cX2_ageOf 2 (some .int), .fieldLink RX2 51 "RenameRows$Ring" "oldest" "I"] ++ wsX20)
def wsX2_isInState : List Cond := .code yX2_isInState cX2_isInState 3 (some .boolean) :: ([.fieldLink RX2 30 "RenameRows$Ring" "state" "[I", .methodLink RX2 48 yX2_holdsRow, .instanceMethod yX2_holdsRow, .selects RX2 yX2_holdsRow yX2_holdsRow, .initialized RX2, .code yX2_holdsRow cX2_holdsRow 2 (some .boolean), .fieldLink RX2 33 "RenameRows$Ring" "rows" "I", .methodLink RX2 40 yX2_isPlace, .instanceMethod yX2_isPlace, .selects RX2 yX2_isPlace yX2_isPlace, .code yX2_isPlace cX2_isPlace 2 (some .boolean), .methodLink RX2 44 yX2_ageOf, .instanceMethod yX2_ageOf, .selects RX2 yX2_ageOf yX2_ageOf, .code yX2_ageOf cX2_ageOf 2 (some .int), .fieldLink RX2 51 "RenameRows$Ring" "oldest" "I"] ++ wsX20)
def wsX2_oldestPlace : List Cond := .code yX2_oldestPlace cX2_oldestPlace 1 (some .int) :: ([.fieldLink RX2 33 "RenameRows$Ring" "rows" "I", .fieldLink RX2 51 "RenameRows$Ring" "oldest" "I"] ++ wsX20)
def wsX2_placeOfAge : List Cond := .code yX2_placeOfAge cX2_placeOfAge 3 (some .int) :: ([.fieldLink RX2 51 "RenameRows$Ring" "oldest" "I", .fieldLink RX2 30 "RenameRows$Ring" "state" "[I"] ++ wsX20)
def wsX2_lastPlace : List Cond := .code yX2_lastPlace cX2_lastPlace 1 (some .int) :: ([.fieldLink RX2 33 "RenameRows$Ring" "rows" "I", .methodLink RX2 54 yX2_placeOfAge, .instanceMethod yX2_placeOfAge, .selects RX2 yX2_placeOfAge yX2_placeOfAge, .initialized RX2, .code yX2_placeOfAge cX2_placeOfAge 3 (some .int), .fieldLink RX2 51 "RenameRows$Ring" "oldest" "I", .fieldLink RX2 30 "RenameRows$Ring" "state" "[I"] ++ wsX20)
def wsX2_append : List Cond := .code yX2_append cX2_append 8 (some .int) :: ([.fieldLink RX2 33 "RenameRows$Ring" "rows" "I", .fieldLink RX2 9 "RenameRows$Ring" "readA" "[I", .fieldLink RX2 15 "RenameRows$Ring" "readB" "[I", .fieldLink RX2 18 "RenameRows$Ring" "given" "[I", .fieldLink RX2 21 "RenameRows$Ring" "known" "[I", .fieldLink RX2 24 "RenameRows$Ring" "register" "[I", .fieldLink RX2 27 "RenameRows$Ring" "port" "[I", .fieldLink RX2 30 "RenameRows$Ring" "state" "[I", .methodLink RX2 57 yX2_isFull, .instanceMethod yX2_isFull, .selects RX2 yX2_isFull yX2_isFull, .initialized RX2, .code yX2_isFull cX2_isFull 1 (some .boolean), .methodLink RX2 54 yX2_placeOfAge, .instanceMethod yX2_placeOfAge, .selects RX2 yX2_placeOfAge yX2_placeOfAge, .code yX2_placeOfAge cX2_placeOfAge 3 (some .int), .fieldLink RX2 51 "RenameRows$Ring" "oldest" "I"] ++ wsX20)
def wsX2_dropOldest : List Cond := .code yX2_dropOldest cX2_dropOldest 1 none :: ([.fieldLink RX2 33 "RenameRows$Ring" "rows" "I", .fieldLink RX2 51 "RenameRows$Ring" "oldest" "I", .fieldLink RX2 37 "RenameRows$Ring" "done" "I", .methodLink RX2 54 yX2_placeOfAge, .instanceMethod yX2_placeOfAge, .selects RX2 yX2_placeOfAge yX2_placeOfAge, .initialized RX2, .code yX2_placeOfAge cX2_placeOfAge 3 (some .int), .fieldLink RX2 30 "RenameRows$Ring" "state" "[I"] ++ wsX20)
def wsX2_dropLast : List Cond := .code yX2_dropLast cX2_dropLast 1 none :: ([.fieldLink RX2 33 "RenameRows$Ring" "rows" "I"] ++ wsX20)
def wsX2_readAAt : List Cond := .code yX2_readAAt cX2_readAAt 2 (some .int) :: ([.fieldLink RX2 9 "RenameRows$Ring" "readA" "[I", .methodLink RX2 40 yX2_isPlace, .instanceMethod yX2_isPlace, .selects RX2 yX2_isPlace yX2_isPlace, .initialized RX2, .code yX2_isPlace cX2_isPlace 2 (some .boolean), .fieldLink RX2 30 "RenameRows$Ring" "state" "[I"] ++ wsX20)
def wsX2_readBAt : List Cond := .code yX2_readBAt cX2_readBAt 2 (some .int) :: ([.fieldLink RX2 15 "RenameRows$Ring" "readB" "[I", .methodLink RX2 40 yX2_isPlace, .instanceMethod yX2_isPlace, .selects RX2 yX2_isPlace yX2_isPlace, .initialized RX2, .code yX2_isPlace cX2_isPlace 2 (some .boolean), .fieldLink RX2 30 "RenameRows$Ring" "state" "[I"] ++ wsX20)
def wsX2_givenAt : List Cond := .code yX2_givenAt cX2_givenAt 2 (some .int) :: ([.fieldLink RX2 18 "RenameRows$Ring" "given" "[I", .methodLink RX2 40 yX2_isPlace, .instanceMethod yX2_isPlace, .selects RX2 yX2_isPlace yX2_isPlace, .initialized RX2, .code yX2_isPlace cX2_isPlace 2 (some .boolean), .fieldLink RX2 30 "RenameRows$Ring" "state" "[I"] ++ wsX20)
def wsX2_knownAt : List Cond := .code yX2_knownAt cX2_knownAt 2 (some .int) :: ([.fieldLink RX2 21 "RenameRows$Ring" "known" "[I", .methodLink RX2 40 yX2_isPlace, .instanceMethod yX2_isPlace, .selects RX2 yX2_isPlace yX2_isPlace, .initialized RX2, .code yX2_isPlace cX2_isPlace 2 (some .boolean), .fieldLink RX2 30 "RenameRows$Ring" "state" "[I"] ++ wsX20)
def wsX2_registerAt : List Cond := .code yX2_registerAt cX2_registerAt 2 (some .int) :: ([.fieldLink RX2 24 "RenameRows$Ring" "register" "[I", .methodLink RX2 40 yX2_isPlace, .instanceMethod yX2_isPlace, .selects RX2 yX2_isPlace yX2_isPlace, .initialized RX2, .code yX2_isPlace cX2_isPlace 2 (some .boolean), .fieldLink RX2 30 "RenameRows$Ring" "state" "[I"] ++ wsX20)
def wsX2_portAt : List Cond := .code yX2_portAt cX2_portAt 2 (some .int) :: ([.fieldLink RX2 27 "RenameRows$Ring" "port" "[I", .methodLink RX2 40 yX2_isPlace, .instanceMethod yX2_isPlace, .selects RX2 yX2_isPlace yX2_isPlace, .initialized RX2, .code yX2_isPlace cX2_isPlace 2 (some .boolean), .fieldLink RX2 30 "RenameRows$Ring" "state" "[I"] ++ wsX20)
def wsX2_stateAt : List Cond := .code yX2_stateAt cX2_stateAt 2 (some .int) :: ([.fieldLink RX2 30 "RenameRows$Ring" "state" "[I", .methodLink RX2 40 yX2_isPlace, .instanceMethod yX2_isPlace, .selects RX2 yX2_isPlace yX2_isPlace, .initialized RX2, .code yX2_isPlace cX2_isPlace 2 (some .boolean)] ++ wsX20)
def wsX2_setPort : List Cond := .code yX2_setPort cX2_setPort 3 none :: ([.fieldLink RX2 27 "RenameRows$Ring" "port" "[I", .methodLink RX2 40 yX2_isPlace, .instanceMethod yX2_isPlace, .selects RX2 yX2_isPlace yX2_isPlace, .initialized RX2, .code yX2_isPlace cX2_isPlace 2 (some .boolean), .fieldLink RX2 30 "RenameRows$Ring" "state" "[I"] ++ wsX20)
def wsX2_setState : List Cond := .code yX2_setState cX2_setState 3 none :: ([.fieldLink RX2 30 "RenameRows$Ring" "state" "[I", .methodLink RX2 40 yX2_isPlace, .instanceMethod yX2_isPlace, .selects RX2 yX2_isPlace yX2_isPlace, .initialized RX2, .code yX2_isPlace cX2_isPlace 2 (some .boolean)] ++ wsX20)
def wsX3_oneToSize : List Cond := .code yX3_oneToSize cX3_oneToSize 2 (some .int) :: ([])
def wsX3_init_r1 : List Cond := [Cond.methodLink RX3 1 objectInit, Cond.instanceMethod objectInit, Cond.code objectInit ⟨#[0xb1]⟩ 1 none, Cond.classLink RX3 13 RX1, Cond.instantiable RX1 5, Cond.initialized RX1, Cond.fieldLink RX3 18 "RenameRows" "names" "LRenameRows$Names;", Cond.classLink RX3 22 RX2, Cond.instantiable RX2 10, Cond.initialized RX2, Cond.fieldLink RX3 27 "RenameRows" "ring" "LRenameRows$Ring;", Cond.classLink RX3 31 RX0, Cond.instantiable RX0 3, Cond.initialized RX0, Cond.fieldLink RX3 34 "RenameRows" "marks" "LRenameRows$Marks;", Cond.arrayClass .int, Cond.fieldLink RX3 38 "RenameRows" "nameNow" "[I", Cond.fieldLink RX3 42 "RenameRows" "nameSure" "[I", Cond.fieldLink RX3 45 "RenameRows" "wentTo" "[I", Cond.methodLink RX3 9 yX3_oneToSize, Cond.static yX3_oneToSize, Cond.initialized RX3, Cond.code yX3_oneToSize cX3_oneToSize 2 (some .int), Cond.methodLink RX3 15 yX1_init]
def wsX3_init_r2 : List Cond := [Cond.instanceMethod yX1_init, Cond.code yX1_init cX1_init 5 none, Cond.methodLink RX1 3 objectInit, Cond.fieldLink RX1 9 "RenameRows$Names" "held" "[I", Cond.arrayClass .boolean, Cond.fieldLink RX1 15 "RenameRows$Names" "ready" "[Z", Cond.fieldLink RX1 19 "RenameRows$Names" "queued" "[I", Cond.fieldLink RX1 22 "RenameRows$Names" "free" "I", Cond.methodLink RX3 24 yX2_init, Cond.instanceMethod yX2_init, Cond.code yX2_init cX2_init 2 none, Cond.methodLink RX2 3 objectInit, Cond.fieldLink RX2 9 "RenameRows$Ring" "readA" "[I", Cond.fieldLink RX2 15 "RenameRows$Ring" "readB" "[I", Cond.fieldLink RX2 18 "RenameRows$Ring" "given" "[I", Cond.fieldLink RX2 21 "RenameRows$Ring" "known" "[I", Cond.fieldLink RX2 24 "RenameRows$Ring" "register" "[I", Cond.fieldLink RX2 27 "RenameRows$Ring" "port" "[I", Cond.fieldLink RX2 30 "RenameRows$Ring" "state" "[I", Cond.instanceMethod yX0_init, Cond.code yX0_init cX0_init 1 none, Cond.methodLink RX0 3 objectInit, Cond.fieldLink RX0 9 "RenameRows$Marks" "before" "[I", Cond.fieldLink RX0 15 "RenameRows$Marks" "byTurn" "[I"]
def wsX3_init : List Cond := .code yX3_init cX3_init 6 none :: ((wsX3_init_r1 ++ wsX3_init_r2) ++ wsX10 ++ wsX30 ++ wsX20 ++ wsX00)
def wsX3_isRegister : List Cond := .code yX3_isRegister cX3_isRegister 2 (some .boolean) :: ([.fieldLink RX3 38 "RenameRows" "nameNow" "[I"] ++ wsX30)
def wsX3_isRegisterOrNone : List Cond := .code yX3_isRegisterOrNone cX3_isRegisterOrNone 2 (some .boolean) :: ([.methodLink RX3 85 yX3_isRegister, .instanceMethod yX3_isRegister, .selects RX3 yX3_isRegister yX3_isRegister, .initialized RX3, .code yX3_isRegister cX3_isRegister 2 (some .boolean), .fieldLink RX3 38 "RenameRows" "nameNow" "[I"] ++ wsX30)
def wsX3_currentName : List Cond := .code yX3_currentName cX3_currentName 2 (some .int) :: ([.fieldLink RX3 38 "RenameRows" "nameNow" "[I", .methodLink RX3 85 yX3_isRegister, .instanceMethod yX3_isRegister, .selects RX3 yX3_isRegister yX3_isRegister, .initialized RX3, .code yX3_isRegister cX3_isRegister 2 (some .boolean)] ++ wsX30)
def wsX3_appendRow_r1 : List Cond := [Cond.fieldLink RX3 27 "RenameRows" "ring" "LRenameRows$Ring;", Cond.fieldLink RX3 38 "RenameRows" "nameNow" "[I", Cond.methodLink RX3 74 yX3_currentName, Cond.instanceMethod yX3_currentName, Cond.selects RX3 yX3_currentName yX3_currentName, Cond.initialized RX3, Cond.code yX3_currentName cX3_currentName 2 (some .int), Cond.methodLink RX3 85 yX3_isRegister, Cond.instanceMethod yX3_isRegister, Cond.selects RX3 yX3_isRegister yX3_isRegister, Cond.code yX3_isRegister cX3_isRegister 2 (some .boolean), Cond.methodLink RX3 232 yX2_append, Cond.instanceMethod yX2_append, Cond.selects RX2 yX2_append yX2_append, Cond.initialized RX2, Cond.code yX2_append cX2_append 8 (some .int), Cond.fieldLink RX2 33 "RenameRows$Ring" "rows" "I", Cond.fieldLink RX2 9 "RenameRows$Ring" "readA" "[I", Cond.fieldLink RX2 15 "RenameRows$Ring" "readB" "[I", Cond.fieldLink RX2 18 "RenameRows$Ring" "given" "[I", Cond.fieldLink RX2 21 "RenameRows$Ring" "known" "[I", Cond.fieldLink RX2 24 "RenameRows$Ring" "register" "[I", Cond.fieldLink RX2 27 "RenameRows$Ring" "port" "[I", Cond.fieldLink RX2 30 "RenameRows$Ring" "state" "[I"]
def wsX3_appendRow_r2 : List Cond := [Cond.methodLink RX2 57 yX2_isFull, Cond.instanceMethod yX2_isFull, Cond.selects RX2 yX2_isFull yX2_isFull, Cond.code yX2_isFull cX2_isFull 1 (some .boolean), Cond.methodLink RX2 54 yX2_placeOfAge, Cond.instanceMethod yX2_placeOfAge, Cond.selects RX2 yX2_placeOfAge yX2_placeOfAge, Cond.code yX2_placeOfAge cX2_placeOfAge 3 (some .int), Cond.fieldLink RX2 51 "RenameRows$Ring" "oldest" "I"]
def wsX3_appendRow : List Cond := .code yX3_appendRow cX3_appendRow 7 (some .int) :: ((wsX3_appendRow_r1 ++ wsX3_appendRow_r2) ++ wsX30 ++ wsX20)
def wsX3_dispatch_r1 : List Cond := [Cond.classLink RX3 52 RJx00060, Cond.instantiable RJx00060 6, Cond.initialized RJx00060, Cond.fieldLink RX3 27 "RenameRows" "ring" "LRenameRows$Ring;", Cond.fieldLink RX3 63 "RenameRows" "wantsOfPlace" "I", Cond.fieldLink RX3 18 "RenameRows" "names" "LRenameRows$Names;", Cond.fieldLink RX3 71 "RenameRows" "wantsOfName" "I", Cond.methodLink RX3 48 yX3_isRegisterOrNone, Cond.instanceMethod yX3_isRegisterOrNone, Cond.selects RX3 yX3_isRegisterOrNone yX3_isRegisterOrNone, Cond.initialized RX3, Cond.code yX3_isRegisterOrNone cX3_isRegisterOrNone 2 (some .boolean), Cond.methodLink RX3 85 yX3_isRegister, Cond.instanceMethod yX3_isRegister, Cond.selects RX3 yX3_isRegister yX3_isRegister, Cond.code yX3_isRegister cX3_isRegister 2 (some .boolean), Cond.fieldLink RX3 38 "RenameRows" "nameNow" "[I", Cond.methodLink RX3 59 yX2_isFull, Cond.instanceMethod yX2_isFull, Cond.selects RX2 yX2_isFull yX2_isFull, Cond.initialized RX2, Cond.code yX2_isFull cX2_isFull 1 (some .boolean), Cond.fieldLink RX2 33 "RenameRows$Ring" "rows" "I", Cond.fieldLink RX2 30 "RenameRows$Ring" "state" "[I"]
def wsX3_dispatch_r2 : List Cond := [Cond.methodLink RX3 67 yX1_freeCount, Cond.instanceMethod yX1_freeCount, Cond.selects RX1 yX1_freeCount yX1_freeCount, Cond.initialized RX1, Cond.code yX1_freeCount cX1_freeCount 1 (some .int), Cond.fieldLink RX1 22 "RenameRows$Names" "free" "I", Cond.methodLink RX3 74 yX3_currentName, Cond.instanceMethod yX3_currentName, Cond.selects RX3 yX3_currentName yX3_currentName, Cond.code yX3_currentName cX3_currentName 2 (some .int), Cond.methodLink RX3 78 yX1_takeFirstFree, Cond.instanceMethod yX1_takeFirstFree, Cond.selects RX1 yX1_takeFirstFree yX1_takeFirstFree, Cond.code yX1_takeFirstFree cX1_takeFirstFree 2 (some .int), Cond.fieldLink RX1 19 "RenameRows$Names" "queued" "[I", Cond.fieldLink RX1 34 "RenameRows$Names" "first" "I", Cond.fieldLink RX1 9 "RenameRows$Names" "held" "[I", Cond.fieldLink RX1 15 "RenameRows$Names" "ready" "[Z", Cond.methodLink RX1 30 yX1_slotOf, Cond.instanceMethod yX1_slotOf, Cond.selects RX1 yX1_slotOf yX1_slotOf, Cond.code yX1_slotOf cX1_slotOf 3 (some .int), Cond.methodLink RX3 81 yX3_appendRow, Cond.instanceMethod yX3_appendRow]
def wsX3_dispatch_r3 : List Cond := [Cond.selects RX3 yX3_appendRow yX3_appendRow, Cond.code yX3_appendRow cX3_appendRow 7 (some .int), Cond.methodLink RX3 232 yX2_append, Cond.instanceMethod yX2_append, Cond.selects RX2 yX2_append yX2_append, Cond.code yX2_append cX2_append 8 (some .int), Cond.fieldLink RX2 9 "RenameRows$Ring" "readA" "[I", Cond.fieldLink RX2 15 "RenameRows$Ring" "readB" "[I", Cond.fieldLink RX2 18 "RenameRows$Ring" "given" "[I", Cond.fieldLink RX2 21 "RenameRows$Ring" "known" "[I", Cond.fieldLink RX2 24 "RenameRows$Ring" "register" "[I", Cond.fieldLink RX2 27 "RenameRows$Ring" "port" "[I", Cond.methodLink RX2 57 yX2_isFull, Cond.methodLink RX2 54 yX2_placeOfAge, Cond.instanceMethod yX2_placeOfAge, Cond.selects RX2 yX2_placeOfAge yX2_placeOfAge, Cond.code yX2_placeOfAge cX2_placeOfAge 3 (some .int), Cond.fieldLink RX2 51 "RenameRows$Ring" "oldest" "I"]
def wsX3_dispatch : List Cond := .code yX3_dispatch cX3_dispatch 7 (some .int) :: ((wsX3_dispatch_r1 ++ (wsX3_dispatch_r2 ++ wsX3_dispatch_r3)) ++ wsJx000600 ++ wsX30 ++ wsX20 ++ wsX10)
def wsX3_move_r1 : List Cond := [Cond.classLink RX3 52 RJx00060, Cond.instantiable RJx00060 6, Cond.initialized RJx00060, Cond.fieldLink RX3 27 "RenameRows" "ring" "LRenameRows$Ring;", Cond.fieldLink RX3 63 "RenameRows" "wantsOfPlace" "I", Cond.fieldLink RX3 18 "RenameRows" "names" "LRenameRows$Names;", Cond.methodLink RX3 85 yX3_isRegister, Cond.instanceMethod yX3_isRegister, Cond.selects RX3 yX3_isRegister yX3_isRegister, Cond.initialized RX3, Cond.code yX3_isRegister cX3_isRegister 2 (some .boolean), Cond.fieldLink RX3 38 "RenameRows" "nameNow" "[I", Cond.methodLink RX3 59 yX2_isFull, Cond.instanceMethod yX2_isFull, Cond.selects RX2 yX2_isFull yX2_isFull, Cond.initialized RX2, Cond.code yX2_isFull cX2_isFull 1 (some .boolean), Cond.fieldLink RX2 33 "RenameRows$Ring" "rows" "I", Cond.fieldLink RX2 30 "RenameRows$Ring" "state" "[I", Cond.methodLink RX3 74 yX3_currentName, Cond.instanceMethod yX3_currentName, Cond.selects RX3 yX3_currentName yX3_currentName, Cond.code yX3_currentName cX3_currentName 2 (some .int), Cond.methodLink RX3 88 yX1_addShare]
def wsX3_move_r2 : List Cond := [Cond.instanceMethod yX1_addShare, Cond.selects RX1 yX1_addShare yX1_addShare, Cond.initialized RX1, Cond.code yX1_addShare cX1_addShare 2 none, Cond.fieldLink RX1 9 "RenameRows$Names" "held" "[I", Cond.methodLink RX1 26 yX1_isName, Cond.instanceMethod yX1_isName, Cond.selects RX1 yX1_isName yX1_isName, Cond.code yX1_isName cX1_isName 2 (some .boolean), Cond.methodLink RX3 81 yX3_appendRow, Cond.instanceMethod yX3_appendRow, Cond.selects RX3 yX3_appendRow yX3_appendRow, Cond.code yX3_appendRow cX3_appendRow 7 (some .int), Cond.methodLink RX3 232 yX2_append, Cond.instanceMethod yX2_append, Cond.selects RX2 yX2_append yX2_append, Cond.code yX2_append cX2_append 8 (some .int), Cond.fieldLink RX2 9 "RenameRows$Ring" "readA" "[I", Cond.fieldLink RX2 15 "RenameRows$Ring" "readB" "[I", Cond.fieldLink RX2 18 "RenameRows$Ring" "given" "[I", Cond.fieldLink RX2 21 "RenameRows$Ring" "known" "[I", Cond.fieldLink RX2 24 "RenameRows$Ring" "register" "[I", Cond.fieldLink RX2 27 "RenameRows$Ring" "port" "[I", Cond.methodLink RX2 57 yX2_isFull]
def wsX3_move_r3 : List Cond := [Cond.methodLink RX2 54 yX2_placeOfAge, Cond.instanceMethod yX2_placeOfAge, Cond.selects RX2 yX2_placeOfAge yX2_placeOfAge, Cond.code yX2_placeOfAge cX2_placeOfAge 3 (some .int), Cond.fieldLink RX2 51 "RenameRows$Ring" "oldest" "I"]
def wsX3_move : List Cond := .code yX3_move cX3_move 4 (some .int) :: ((wsX3_move_r1 ++ (wsX3_move_r2 ++ wsX3_move_r3)) ++ wsJx000600 ++ wsX30 ++ wsX20 ++ wsX10)
def wsX3_port_r1 : List Cond := [Cond.classLink RX3 100 "java/lang/IllegalStateException", Cond.initialized "java/lang/IllegalStateException", Cond.classLink RX3 105 "java/lang/IllegalArgumentException", Cond.initialized "java/lang/IllegalArgumentException", Cond.fieldLink RX3 27 "RenameRows" "ring" "LRenameRows$Ring;", Cond.classLink RX3 52 RJx00060, Cond.instantiable RJx00060 6, Cond.initialized RJx00060, Cond.methodLink RX3 91 yX2_isPlace, Cond.instanceMethod yX2_isPlace, Cond.selects RX2 yX2_isPlace yX2_isPlace, Cond.initialized RX2, Cond.code yX2_isPlace cX2_isPlace 2 (some .boolean), Cond.fieldLink RX2 30 "RenameRows$Ring" "state" "[I", Cond.methodLink RX3 96 yX2_isInState, Cond.instanceMethod yX2_isInState, Cond.selects RX2 yX2_isInState yX2_isInState, Cond.code yX2_isInState cX2_isInState 3 (some .boolean), Cond.methodLink RX2 48 yX2_holdsRow, Cond.instanceMethod yX2_holdsRow, Cond.selects RX2 yX2_holdsRow yX2_holdsRow, Cond.code yX2_holdsRow cX2_holdsRow 2 (some .boolean), Cond.fieldLink RX2 33 "RenameRows$Ring" "rows" "I", Cond.methodLink RX2 40 yX2_isPlace]
def wsX3_port_r2 : List Cond := [Cond.methodLink RX2 44 yX2_ageOf, Cond.instanceMethod yX2_ageOf, Cond.selects RX2 yX2_ageOf yX2_ageOf, Cond.code yX2_ageOf cX2_ageOf 2 (some .int), Cond.fieldLink RX2 51 "RenameRows$Ring" "oldest" "I", Cond.methodLink RX3 110 yX2_portAt, Cond.instanceMethod yX2_portAt, Cond.selects RX2 yX2_portAt yX2_portAt, Cond.code yX2_portAt cX2_portAt 2 (some .int), Cond.fieldLink RX2 27 "RenameRows$Ring" "port" "[I", Cond.methodLink RX3 113 yX2_setPort, Cond.instanceMethod yX2_setPort, Cond.selects RX2 yX2_setPort yX2_setPort, Cond.code yX2_setPort cX2_setPort 3 none]
def wsX3_port : List Cond := .code yX3_port cX3_port 4 (some .int) :: ((wsX3_port_r1 ++ wsX3_port_r2) ++ wsX30 ++ wsJx000600 ++ wsX20 ++ (vx_atS RX3 104 "java/lang/IllegalStateException" ["java/lang/RuntimeException", "java/lang/Exception"]).filter goodWord ++ (vx_atS RX3 109 "java/lang/IllegalArgumentException" ["java/lang/RuntimeException", "java/lang/Exception"]).filter goodWord)
def wsX3_isAble_r1 : List Cond := [Cond.fieldLink RX3 27 "RenameRows" "ring" "LRenameRows$Ring;", Cond.fieldLink RX3 18 "RenameRows" "names" "LRenameRows$Names;", Cond.methodLink RX3 96 yX2_isInState, Cond.instanceMethod yX2_isInState, Cond.selects RX2 yX2_isInState yX2_isInState, Cond.initialized RX2, Cond.code yX2_isInState cX2_isInState 3 (some .boolean), Cond.fieldLink RX2 30 "RenameRows$Ring" "state" "[I", Cond.methodLink RX2 48 yX2_holdsRow, Cond.instanceMethod yX2_holdsRow, Cond.selects RX2 yX2_holdsRow yX2_holdsRow, Cond.code yX2_holdsRow cX2_holdsRow 2 (some .boolean), Cond.fieldLink RX2 33 "RenameRows$Ring" "rows" "I", Cond.methodLink RX2 40 yX2_isPlace, Cond.instanceMethod yX2_isPlace, Cond.selects RX2 yX2_isPlace yX2_isPlace, Cond.code yX2_isPlace cX2_isPlace 2 (some .boolean), Cond.methodLink RX2 44 yX2_ageOf, Cond.instanceMethod yX2_ageOf, Cond.selects RX2 yX2_ageOf yX2_ageOf, Cond.code yX2_ageOf cX2_ageOf 2 (some .int), Cond.fieldLink RX2 51 "RenameRows$Ring" "oldest" "I", Cond.methodLink RX3 203 yX2_readAAt, Cond.instanceMethod yX2_readAAt]
def wsX3_isAble_r2 : List Cond := [Cond.selects RX2 yX2_readAAt yX2_readAAt, Cond.code yX2_readAAt cX2_readAAt 2 (some .int), Cond.fieldLink RX2 9 "RenameRows$Ring" "readA" "[I", Cond.methodLink RX3 236 yX1_isReadyOrNone, Cond.instanceMethod yX1_isReadyOrNone, Cond.selects RX1 yX1_isReadyOrNone yX1_isReadyOrNone, Cond.initialized RX1, Cond.code yX1_isReadyOrNone cX1_isReadyOrNone 2 (some .boolean), Cond.fieldLink RX1 15 "RenameRows$Names" "ready" "[Z", Cond.methodLink RX1 26 yX1_isName, Cond.instanceMethod yX1_isName, Cond.selects RX1 yX1_isName yX1_isName, Cond.code yX1_isName cX1_isName 2 (some .boolean), Cond.fieldLink RX1 9 "RenameRows$Names" "held" "[I", Cond.methodLink RX3 206 yX2_readBAt, Cond.instanceMethod yX2_readBAt, Cond.selects RX2 yX2_readBAt yX2_readBAt, Cond.code yX2_readBAt cX2_readBAt 2 (some .int), Cond.fieldLink RX2 15 "RenameRows$Ring" "readB" "[I"]
def wsX3_isAble : List Cond := .code yX3_isAble cX3_isAble 2 (some .boolean) :: ((wsX3_isAble_r1 ++ wsX3_isAble_r2) ++ wsX30 ++ wsX20 ++ wsX10)
def wsX3_oldestAbleFor_r1 : List Cond := [Cond.fieldLink RX3 27 "RenameRows" "ring" "LRenameRows$Ring;", Cond.methodLink RX3 226 yX2_rowCount, Cond.instanceMethod yX2_rowCount, Cond.selects RX2 yX2_rowCount yX2_rowCount, Cond.initialized RX2, Cond.code yX2_rowCount cX2_rowCount 1 (some .int), Cond.fieldLink RX2 33 "RenameRows$Ring" "rows" "I", Cond.methodLink RX3 239 yX2_placeOfAge, Cond.instanceMethod yX2_placeOfAge, Cond.selects RX2 yX2_placeOfAge yX2_placeOfAge, Cond.code yX2_placeOfAge cX2_placeOfAge 3 (some .int), Cond.fieldLink RX2 51 "RenameRows$Ring" "oldest" "I", Cond.fieldLink RX2 30 "RenameRows$Ring" "state" "[I", Cond.methodLink RX3 110 yX2_portAt, Cond.instanceMethod yX2_portAt, Cond.selects RX2 yX2_portAt yX2_portAt, Cond.code yX2_portAt cX2_portAt 2 (some .int), Cond.fieldLink RX2 27 "RenameRows$Ring" "port" "[I", Cond.methodLink RX2 40 yX2_isPlace, Cond.instanceMethod yX2_isPlace, Cond.selects RX2 yX2_isPlace yX2_isPlace, Cond.code yX2_isPlace cX2_isPlace 2 (some .boolean), Cond.methodLink RX3 242 yX3_isAble, Cond.instanceMethod yX3_isAble]
def wsX3_oldestAbleFor_r2 : List Cond := [Cond.selects RX3 yX3_isAble yX3_isAble, Cond.initialized RX3, Cond.code yX3_isAble cX3_isAble 2 (some .boolean), Cond.fieldLink RX3 18 "RenameRows" "names" "LRenameRows$Names;", Cond.methodLink RX3 96 yX2_isInState, Cond.instanceMethod yX2_isInState, Cond.selects RX2 yX2_isInState yX2_isInState, Cond.code yX2_isInState cX2_isInState 3 (some .boolean), Cond.methodLink RX2 48 yX2_holdsRow, Cond.instanceMethod yX2_holdsRow, Cond.selects RX2 yX2_holdsRow yX2_holdsRow, Cond.code yX2_holdsRow cX2_holdsRow 2 (some .boolean), Cond.methodLink RX2 44 yX2_ageOf, Cond.instanceMethod yX2_ageOf, Cond.selects RX2 yX2_ageOf yX2_ageOf, Cond.code yX2_ageOf cX2_ageOf 2 (some .int), Cond.methodLink RX3 203 yX2_readAAt, Cond.instanceMethod yX2_readAAt, Cond.selects RX2 yX2_readAAt yX2_readAAt, Cond.code yX2_readAAt cX2_readAAt 2 (some .int), Cond.fieldLink RX2 9 "RenameRows$Ring" "readA" "[I", Cond.methodLink RX3 236 yX1_isReadyOrNone, Cond.instanceMethod yX1_isReadyOrNone, Cond.selects RX1 yX1_isReadyOrNone yX1_isReadyOrNone]
def wsX3_oldestAbleFor_r3 : List Cond := [Cond.initialized RX1, Cond.code yX1_isReadyOrNone cX1_isReadyOrNone 2 (some .boolean), Cond.fieldLink RX1 15 "RenameRows$Names" "ready" "[Z", Cond.methodLink RX1 26 yX1_isName, Cond.instanceMethod yX1_isName, Cond.selects RX1 yX1_isName yX1_isName, Cond.code yX1_isName cX1_isName 2 (some .boolean), Cond.fieldLink RX1 9 "RenameRows$Names" "held" "[I", Cond.methodLink RX3 206 yX2_readBAt, Cond.instanceMethod yX2_readBAt, Cond.selects RX2 yX2_readBAt yX2_readBAt, Cond.code yX2_readBAt cX2_readBAt 2 (some .int), Cond.fieldLink RX2 15 "RenameRows$Ring" "readB" "[I"]
def wsX3_oldestAbleFor : List Cond := .code yX3_oldestAbleFor cX3_oldestAbleFor 4 (some .int) :: ((wsX3_oldestAbleFor_r1 ++ (wsX3_oldestAbleFor_r2 ++ wsX3_oldestAbleFor_r3)) ++ wsX30 ++ wsX20 ++ wsX10)
def wsX3_select_r1 : List Cond := [Cond.classLink RX3 105 "java/lang/IllegalArgumentException", Cond.initialized "java/lang/IllegalArgumentException", Cond.fieldLink RX3 45 "RenameRows" "wentTo" "[I", Cond.fieldLink RX3 27 "RenameRows" "ring" "LRenameRows$Ring;", Cond.methodLink RX3 118 yX3_oldestAbleFor, Cond.instanceMethod yX3_oldestAbleFor, Cond.selects RX3 yX3_oldestAbleFor yX3_oldestAbleFor, Cond.initialized RX3, Cond.code yX3_oldestAbleFor cX3_oldestAbleFor 4 (some .int), Cond.methodLink RX3 226 yX2_rowCount, Cond.instanceMethod yX2_rowCount, Cond.selects RX2 yX2_rowCount yX2_rowCount, Cond.initialized RX2, Cond.code yX2_rowCount cX2_rowCount 1 (some .int), Cond.fieldLink RX2 33 "RenameRows$Ring" "rows" "I", Cond.methodLink RX3 239 yX2_placeOfAge, Cond.instanceMethod yX2_placeOfAge, Cond.selects RX2 yX2_placeOfAge yX2_placeOfAge, Cond.code yX2_placeOfAge cX2_placeOfAge 3 (some .int), Cond.fieldLink RX2 51 "RenameRows$Ring" "oldest" "I", Cond.fieldLink RX2 30 "RenameRows$Ring" "state" "[I", Cond.methodLink RX3 110 yX2_portAt, Cond.instanceMethod yX2_portAt, Cond.selects RX2 yX2_portAt yX2_portAt]
def wsX3_select_r2 : List Cond := [Cond.code yX2_portAt cX2_portAt 2 (some .int), Cond.fieldLink RX2 27 "RenameRows$Ring" "port" "[I", Cond.methodLink RX2 40 yX2_isPlace, Cond.instanceMethod yX2_isPlace, Cond.selects RX2 yX2_isPlace yX2_isPlace, Cond.code yX2_isPlace cX2_isPlace 2 (some .boolean), Cond.methodLink RX3 242 yX3_isAble, Cond.instanceMethod yX3_isAble, Cond.selects RX3 yX3_isAble yX3_isAble, Cond.code yX3_isAble cX3_isAble 2 (some .boolean), Cond.fieldLink RX3 18 "RenameRows" "names" "LRenameRows$Names;", Cond.methodLink RX3 96 yX2_isInState, Cond.instanceMethod yX2_isInState, Cond.selects RX2 yX2_isInState yX2_isInState, Cond.code yX2_isInState cX2_isInState 3 (some .boolean), Cond.methodLink RX2 48 yX2_holdsRow, Cond.instanceMethod yX2_holdsRow, Cond.selects RX2 yX2_holdsRow yX2_holdsRow, Cond.code yX2_holdsRow cX2_holdsRow 2 (some .boolean), Cond.methodLink RX2 44 yX2_ageOf, Cond.instanceMethod yX2_ageOf, Cond.selects RX2 yX2_ageOf yX2_ageOf, Cond.code yX2_ageOf cX2_ageOf 2 (some .int), Cond.methodLink RX3 203 yX2_readAAt]
def wsX3_select_r3 : List Cond := [Cond.instanceMethod yX2_readAAt, Cond.selects RX2 yX2_readAAt yX2_readAAt, Cond.code yX2_readAAt cX2_readAAt 2 (some .int), Cond.fieldLink RX2 9 "RenameRows$Ring" "readA" "[I", Cond.methodLink RX3 236 yX1_isReadyOrNone, Cond.instanceMethod yX1_isReadyOrNone, Cond.selects RX1 yX1_isReadyOrNone yX1_isReadyOrNone, Cond.initialized RX1, Cond.code yX1_isReadyOrNone cX1_isReadyOrNone 2 (some .boolean), Cond.fieldLink RX1 15 "RenameRows$Names" "ready" "[Z", Cond.methodLink RX1 26 yX1_isName, Cond.instanceMethod yX1_isName, Cond.selects RX1 yX1_isName yX1_isName, Cond.code yX1_isName cX1_isName 2 (some .boolean), Cond.fieldLink RX1 9 "RenameRows$Names" "held" "[I", Cond.methodLink RX3 206 yX2_readBAt, Cond.instanceMethod yX2_readBAt, Cond.selects RX2 yX2_readBAt yX2_readBAt, Cond.code yX2_readBAt cX2_readBAt 2 (some .int), Cond.fieldLink RX2 15 "RenameRows$Ring" "readB" "[I", Cond.methodLink RX3 121 yX2_setState, Cond.instanceMethod yX2_setState, Cond.selects RX2 yX2_setState yX2_setState, Cond.code yX2_setState cX2_setState 3 none]
def wsX3_select : List Cond := .code yX3_select cX3_select 5 (some .int) :: ((wsX3_select_r1 ++ (wsX3_select_r2 ++ wsX3_select_r3)) ++ wsX30 ++ wsX20 ++ wsX10 ++ (vx_atS RX3 109 "java/lang/IllegalArgumentException" ["java/lang/RuntimeException", "java/lang/Exception"]).filter goodWord)
def wsX3_selected : List Cond := .code yX3_selected cX3_selected 2 (some .int) :: ([.classLink RX3 52 RJx00060, .instantiable RJx00060 6, .initialized RJx00060, .fieldLink RX3 45 "RenameRows" "wentTo" "[I"] ++ wsJx000600 ++ wsX30)
def wsX3_countAble_r1 : List Cond := [Cond.fieldLink RX3 27 "RenameRows" "ring" "LRenameRows$Ring;", Cond.methodLink RX3 226 yX2_rowCount, Cond.instanceMethod yX2_rowCount, Cond.selects RX2 yX2_rowCount yX2_rowCount, Cond.initialized RX2, Cond.code yX2_rowCount cX2_rowCount 1 (some .int), Cond.fieldLink RX2 33 "RenameRows$Ring" "rows" "I", Cond.methodLink RX3 239 yX2_placeOfAge, Cond.instanceMethod yX2_placeOfAge, Cond.selects RX2 yX2_placeOfAge yX2_placeOfAge, Cond.code yX2_placeOfAge cX2_placeOfAge 3 (some .int), Cond.fieldLink RX2 51 "RenameRows$Ring" "oldest" "I", Cond.fieldLink RX2 30 "RenameRows$Ring" "state" "[I", Cond.methodLink RX3 242 yX3_isAble, Cond.instanceMethod yX3_isAble, Cond.selects RX3 yX3_isAble yX3_isAble, Cond.initialized RX3, Cond.code yX3_isAble cX3_isAble 2 (some .boolean), Cond.fieldLink RX3 18 "RenameRows" "names" "LRenameRows$Names;", Cond.methodLink RX3 96 yX2_isInState, Cond.instanceMethod yX2_isInState, Cond.selects RX2 yX2_isInState yX2_isInState, Cond.code yX2_isInState cX2_isInState 3 (some .boolean), Cond.methodLink RX2 48 yX2_holdsRow]
def wsX3_countAble_r2 : List Cond := [Cond.instanceMethod yX2_holdsRow, Cond.selects RX2 yX2_holdsRow yX2_holdsRow, Cond.code yX2_holdsRow cX2_holdsRow 2 (some .boolean), Cond.methodLink RX2 40 yX2_isPlace, Cond.instanceMethod yX2_isPlace, Cond.selects RX2 yX2_isPlace yX2_isPlace, Cond.code yX2_isPlace cX2_isPlace 2 (some .boolean), Cond.methodLink RX2 44 yX2_ageOf, Cond.instanceMethod yX2_ageOf, Cond.selects RX2 yX2_ageOf yX2_ageOf, Cond.code yX2_ageOf cX2_ageOf 2 (some .int), Cond.methodLink RX3 203 yX2_readAAt, Cond.instanceMethod yX2_readAAt, Cond.selects RX2 yX2_readAAt yX2_readAAt, Cond.code yX2_readAAt cX2_readAAt 2 (some .int), Cond.fieldLink RX2 9 "RenameRows$Ring" "readA" "[I", Cond.methodLink RX3 236 yX1_isReadyOrNone, Cond.instanceMethod yX1_isReadyOrNone, Cond.selects RX1 yX1_isReadyOrNone yX1_isReadyOrNone, Cond.initialized RX1, Cond.code yX1_isReadyOrNone cX1_isReadyOrNone 2 (some .boolean), Cond.fieldLink RX1 15 "RenameRows$Names" "ready" "[Z", Cond.methodLink RX1 26 yX1_isName, Cond.instanceMethod yX1_isName]
def wsX3_countAble_r3 : List Cond := [Cond.selects RX1 yX1_isName yX1_isName, Cond.code yX1_isName cX1_isName 2 (some .boolean), Cond.fieldLink RX1 9 "RenameRows$Names" "held" "[I", Cond.methodLink RX3 206 yX2_readBAt, Cond.instanceMethod yX2_readBAt, Cond.selects RX2 yX2_readBAt yX2_readBAt, Cond.code yX2_readBAt cX2_readBAt 2 (some .int), Cond.fieldLink RX2 15 "RenameRows$Ring" "readB" "[I"]
def wsX3_countAble : List Cond := .code yX3_countAble cX3_countAble 3 (some .int) :: ((wsX3_countAble_r1 ++ (wsX3_countAble_r2 ++ wsX3_countAble_r3)) ++ wsX30 ++ wsX20 ++ wsX10)
def wsX3_end_r1 : List Cond := [Cond.classLink RX3 100 "java/lang/IllegalStateException", Cond.initialized "java/lang/IllegalStateException", Cond.fieldLink RX3 27 "RenameRows" "ring" "LRenameRows$Ring;", Cond.classLink RX3 52 RJx00060, Cond.instantiable RJx00060 6, Cond.initialized RJx00060, Cond.fieldLink RX3 18 "RenameRows" "names" "LRenameRows$Names;", Cond.methodLink RX3 91 yX2_isPlace, Cond.instanceMethod yX2_isPlace, Cond.selects RX2 yX2_isPlace yX2_isPlace, Cond.initialized RX2, Cond.code yX2_isPlace cX2_isPlace 2 (some .boolean), Cond.fieldLink RX2 30 "RenameRows$Ring" "state" "[I", Cond.methodLink RX3 96 yX2_isInState, Cond.instanceMethod yX2_isInState, Cond.selects RX2 yX2_isInState yX2_isInState, Cond.code yX2_isInState cX2_isInState 3 (some .boolean), Cond.methodLink RX2 48 yX2_holdsRow, Cond.instanceMethod yX2_holdsRow, Cond.selects RX2 yX2_holdsRow yX2_holdsRow, Cond.code yX2_holdsRow cX2_holdsRow 2 (some .boolean), Cond.fieldLink RX2 33 "RenameRows$Ring" "rows" "I", Cond.methodLink RX2 40 yX2_isPlace, Cond.methodLink RX2 44 yX2_ageOf]
def wsX3_end_r2 : List Cond := [Cond.instanceMethod yX2_ageOf, Cond.selects RX2 yX2_ageOf yX2_ageOf, Cond.code yX2_ageOf cX2_ageOf 2 (some .int), Cond.fieldLink RX2 51 "RenameRows$Ring" "oldest" "I", Cond.methodLink RX3 121 yX2_setState, Cond.instanceMethod yX2_setState, Cond.selects RX2 yX2_setState yX2_setState, Cond.code yX2_setState cX2_setState 3 none, Cond.methodLink RX3 126 yX3_countAble, Cond.instanceMethod yX3_countAble, Cond.selects RX3 yX3_countAble yX3_countAble, Cond.initialized RX3, Cond.code yX3_countAble cX3_countAble 3 (some .int), Cond.methodLink RX3 226 yX2_rowCount, Cond.instanceMethod yX2_rowCount, Cond.selects RX2 yX2_rowCount yX2_rowCount, Cond.code yX2_rowCount cX2_rowCount 1 (some .int), Cond.methodLink RX3 239 yX2_placeOfAge, Cond.instanceMethod yX2_placeOfAge, Cond.selects RX2 yX2_placeOfAge yX2_placeOfAge, Cond.code yX2_placeOfAge cX2_placeOfAge 3 (some .int), Cond.methodLink RX3 242 yX3_isAble, Cond.instanceMethod yX3_isAble, Cond.selects RX3 yX3_isAble yX3_isAble]
def wsX3_end_r3 : List Cond := [Cond.code yX3_isAble cX3_isAble 2 (some .boolean), Cond.methodLink RX3 203 yX2_readAAt, Cond.instanceMethod yX2_readAAt, Cond.selects RX2 yX2_readAAt yX2_readAAt, Cond.code yX2_readAAt cX2_readAAt 2 (some .int), Cond.fieldLink RX2 9 "RenameRows$Ring" "readA" "[I", Cond.methodLink RX3 236 yX1_isReadyOrNone, Cond.instanceMethod yX1_isReadyOrNone, Cond.selects RX1 yX1_isReadyOrNone yX1_isReadyOrNone, Cond.initialized RX1, Cond.code yX1_isReadyOrNone cX1_isReadyOrNone 2 (some .boolean), Cond.fieldLink RX1 15 "RenameRows$Names" "ready" "[Z", Cond.methodLink RX1 26 yX1_isName, Cond.instanceMethod yX1_isName, Cond.selects RX1 yX1_isName yX1_isName, Cond.code yX1_isName cX1_isName 2 (some .boolean), Cond.fieldLink RX1 9 "RenameRows$Names" "held" "[I", Cond.methodLink RX3 206 yX2_readBAt, Cond.instanceMethod yX2_readBAt, Cond.selects RX2 yX2_readBAt yX2_readBAt, Cond.code yX2_readBAt cX2_readBAt 2 (some .int), Cond.fieldLink RX2 15 "RenameRows$Ring" "readB" "[I", Cond.methodLink RX3 129 yX2_givenAt, Cond.instanceMethod yX2_givenAt]
def wsX3_end_r4 : List Cond := [Cond.selects RX2 yX2_givenAt yX2_givenAt, Cond.code yX2_givenAt cX2_givenAt 2 (some .int), Cond.fieldLink RX2 18 "RenameRows$Ring" "given" "[I", Cond.methodLink RX3 132 yX1_makeReady, Cond.instanceMethod yX1_makeReady, Cond.selects RX1 yX1_makeReady yX1_makeReady, Cond.code yX1_makeReady cX1_makeReady 2 none]
def wsX3_end : List Cond := .code yX3_end cX3_end 3 (some .int) :: ((wsX3_end_r1 ++ (wsX3_end_r2 ++ (wsX3_end_r3 ++ wsX3_end_r4))) ++ wsX30 ++ wsJx000600 ++ wsX20 ++ wsX10 ++ (vx_atS RX3 104 "java/lang/IllegalStateException" ["java/lang/RuntimeException", "java/lang/Exception"]).filter goodWord)
def wsX3_rowsBeforeOldestMark_r1 : List Cond := [Cond.fieldLink RX3 34 "RenameRows" "marks" "LRenameRows$Marks;", Cond.fieldLink RX3 27 "RenameRows" "ring" "LRenameRows$Ring;", Cond.methodLink RX3 245 yX0_oldest, Cond.instanceMethod yX0_oldest, Cond.selects RX0 yX0_oldest yX0_oldest, Cond.initialized RX0, Cond.code yX0_oldest cX0_oldest 1 (some .int), Cond.fieldLink RX0 22 "RenameRows$Marks" "taken" "I", Cond.fieldLink RX0 15 "RenameRows$Marks" "byTurn" "[I", Cond.methodLink RX3 226 yX2_rowCount, Cond.instanceMethod yX2_rowCount, Cond.selects RX2 yX2_rowCount yX2_rowCount, Cond.initialized RX2, Cond.code yX2_rowCount cX2_rowCount 1 (some .int), Cond.fieldLink RX2 33 "RenameRows$Ring" "rows" "I", Cond.methodLink RX3 173 yX0_rowsBefore, Cond.instanceMethod yX0_rowsBefore, Cond.selects RX0 yX0_rowsBefore yX0_rowsBefore, Cond.code yX0_rowsBefore cX0_rowsBefore 2 (some .int), Cond.fieldLink RX0 9 "RenameRows$Marks" "before" "[I", Cond.methodLink RX0 26 yX0_isMark, Cond.instanceMethod yX0_isMark, Cond.selects RX0 yX0_isMark yX0_isMark, Cond.code yX0_isMark cX0_isMark 2 (some .boolean)]
def wsX3_rowsBeforeOldestMark_r2 : List Cond := [Cond.methodLink RX3 229 yX2_doneCount, Cond.instanceMethod yX2_doneCount, Cond.selects RX2 yX2_doneCount yX2_doneCount, Cond.code yX2_doneCount cX2_doneCount 1 (some .int), Cond.fieldLink RX2 37 "RenameRows$Ring" "done" "I"]
def wsX3_rowsBeforeOldestMark : List Cond := .code yX3_rowsBeforeOldestMark cX3_rowsBeforeOldestMark 2 (some .int) :: ((wsX3_rowsBeforeOldestMark_r1 ++ wsX3_rowsBeforeOldestMark_r2) ++ wsX30 ++ wsX00 ++ wsX20)
def wsX3_finishOldest_r1 : List Cond := [Cond.fieldLink RX3 27 "RenameRows" "ring" "LRenameRows$Ring;", Cond.fieldLink RX3 42 "RenameRows" "nameSure" "[I", Cond.fieldLink RX3 18 "RenameRows" "names" "LRenameRows$Names;", Cond.methodLink RX3 145 yX2_oldestPlace, Cond.instanceMethod yX2_oldestPlace, Cond.selects RX2 yX2_oldestPlace yX2_oldestPlace, Cond.initialized RX2, Cond.code yX2_oldestPlace cX2_oldestPlace 1 (some .int), Cond.fieldLink RX2 33 "RenameRows$Ring" "rows" "I", Cond.fieldLink RX2 51 "RenameRows$Ring" "oldest" "I", Cond.methodLink RX3 212 yX2_registerAt, Cond.instanceMethod yX2_registerAt, Cond.selects RX2 yX2_registerAt yX2_registerAt, Cond.code yX2_registerAt cX2_registerAt 2 (some .int), Cond.fieldLink RX2 24 "RenameRows$Ring" "register" "[I", Cond.methodLink RX2 40 yX2_isPlace, Cond.instanceMethod yX2_isPlace, Cond.selects RX2 yX2_isPlace yX2_isPlace, Cond.code yX2_isPlace cX2_isPlace 2 (some .boolean), Cond.fieldLink RX2 30 "RenameRows$Ring" "state" "[I", Cond.methodLink RX3 85 yX3_isRegister, Cond.instanceMethod yX3_isRegister, Cond.selects RX3 yX3_isRegister yX3_isRegister, Cond.initialized RX3]
def wsX3_finishOldest_r2 : List Cond := [Cond.code yX3_isRegister cX3_isRegister 2 (some .boolean), Cond.fieldLink RX3 38 "RenameRows" "nameNow" "[I", Cond.methodLink RX3 129 yX2_givenAt, Cond.instanceMethod yX2_givenAt, Cond.selects RX2 yX2_givenAt yX2_givenAt, Cond.code yX2_givenAt cX2_givenAt 2 (some .int), Cond.fieldLink RX2 18 "RenameRows$Ring" "given" "[I", Cond.methodLink RX3 209 yX2_knownAt, Cond.instanceMethod yX2_knownAt, Cond.selects RX2 yX2_knownAt yX2_knownAt, Cond.code yX2_knownAt cX2_knownAt 2 (some .int), Cond.fieldLink RX2 21 "RenameRows$Ring" "known" "[I", Cond.methodLink RX3 248 yX1_giveBack, Cond.instanceMethod yX1_giveBack, Cond.selects RX1 yX1_giveBack yX1_giveBack, Cond.initialized RX1, Cond.code yX1_giveBack cX1_giveBack 2 none, Cond.fieldLink RX1 9 "RenameRows$Names" "held" "[I", Cond.fieldLink RX1 19 "RenameRows$Names" "queued" "[I", Cond.fieldLink RX1 22 "RenameRows$Names" "free" "I", Cond.methodLink RX1 26 yX1_isName, Cond.instanceMethod yX1_isName, Cond.selects RX1 yX1_isName yX1_isName, Cond.code yX1_isName cX1_isName 2 (some .boolean)]
def wsX3_finishOldest_r3 : List Cond := [Cond.methodLink RX1 30 yX1_slotOf, Cond.instanceMethod yX1_slotOf, Cond.selects RX1 yX1_slotOf yX1_slotOf, Cond.code yX1_slotOf cX1_slotOf 3 (some .int), Cond.fieldLink RX1 34 "RenameRows$Names" "first" "I", Cond.methodLink RX3 251 yX2_dropOldest, Cond.instanceMethod yX2_dropOldest, Cond.selects RX2 yX2_dropOldest yX2_dropOldest, Cond.code yX2_dropOldest cX2_dropOldest 1 none, Cond.fieldLink RX2 37 "RenameRows$Ring" "done" "I", Cond.methodLink RX2 54 yX2_placeOfAge, Cond.instanceMethod yX2_placeOfAge, Cond.selects RX2 yX2_placeOfAge yX2_placeOfAge, Cond.code yX2_placeOfAge cX2_placeOfAge 3 (some .int)]
def wsX3_finishOldest : List Cond := .code yX3_finishOldest cX3_finishOldest 3 none :: ((wsX3_finishOldest_r1 ++ (wsX3_finishOldest_r2 ++ wsX3_finishOldest_r3)) ++ wsX30 ++ wsX20 ++ wsX10)
def wsX3_commit_r1 : List Cond := [Cond.classLink RX3 105 "java/lang/IllegalArgumentException", Cond.initialized "java/lang/IllegalArgumentException", Cond.methodLink RX3 140 Lib.Math.min.name, Cond.static Lib.Math.min.name, Cond.initialized "java/lang/Math", Cond.code Lib.Math.min.name Lib.Math.min.code 2 (some .int), Cond.fieldLink RX3 27 "RenameRows" "ring" "LRenameRows$Ring;", Cond.methodLink RX3 137 yX3_rowsBeforeOldestMark, Cond.instanceMethod yX3_rowsBeforeOldestMark, Cond.selects RX3 yX3_rowsBeforeOldestMark yX3_rowsBeforeOldestMark, Cond.initialized RX3, Cond.code yX3_rowsBeforeOldestMark cX3_rowsBeforeOldestMark 2 (some .int), Cond.fieldLink RX3 34 "RenameRows" "marks" "LRenameRows$Marks;", Cond.methodLink RX3 245 yX0_oldest, Cond.instanceMethod yX0_oldest, Cond.selects RX0 yX0_oldest yX0_oldest, Cond.initialized RX0, Cond.code yX0_oldest cX0_oldest 1 (some .int), Cond.fieldLink RX0 22 "RenameRows$Marks" "taken" "I", Cond.fieldLink RX0 15 "RenameRows$Marks" "byTurn" "[I", Cond.methodLink RX3 226 yX2_rowCount, Cond.instanceMethod yX2_rowCount, Cond.selects RX2 yX2_rowCount yX2_rowCount, Cond.initialized RX2]
def wsX3_commit_r2 : List Cond := [Cond.code yX2_rowCount cX2_rowCount 1 (some .int), Cond.fieldLink RX2 33 "RenameRows$Ring" "rows" "I", Cond.methodLink RX3 173 yX0_rowsBefore, Cond.instanceMethod yX0_rowsBefore, Cond.selects RX0 yX0_rowsBefore yX0_rowsBefore, Cond.code yX0_rowsBefore cX0_rowsBefore 2 (some .int), Cond.fieldLink RX0 9 "RenameRows$Marks" "before" "[I", Cond.methodLink RX0 26 yX0_isMark, Cond.instanceMethod yX0_isMark, Cond.selects RX0 yX0_isMark yX0_isMark, Cond.code yX0_isMark cX0_isMark 2 (some .boolean), Cond.methodLink RX3 229 yX2_doneCount, Cond.instanceMethod yX2_doneCount, Cond.selects RX2 yX2_doneCount yX2_doneCount, Cond.code yX2_doneCount cX2_doneCount 1 (some .int), Cond.fieldLink RX2 37 "RenameRows$Ring" "done" "I", Cond.methodLink RX3 145 yX2_oldestPlace, Cond.instanceMethod yX2_oldestPlace, Cond.selects RX2 yX2_oldestPlace yX2_oldestPlace, Cond.code yX2_oldestPlace cX2_oldestPlace 1 (some .int), Cond.fieldLink RX2 51 "RenameRows$Ring" "oldest" "I", Cond.methodLink RX3 96 yX2_isInState, Cond.instanceMethod yX2_isInState, Cond.selects RX2 yX2_isInState yX2_isInState]
def wsX3_commit_r3 : List Cond := [Cond.code yX2_isInState cX2_isInState 3 (some .boolean), Cond.fieldLink RX2 30 "RenameRows$Ring" "state" "[I", Cond.methodLink RX2 48 yX2_holdsRow, Cond.instanceMethod yX2_holdsRow, Cond.selects RX2 yX2_holdsRow yX2_holdsRow, Cond.code yX2_holdsRow cX2_holdsRow 2 (some .boolean), Cond.methodLink RX2 40 yX2_isPlace, Cond.instanceMethod yX2_isPlace, Cond.selects RX2 yX2_isPlace yX2_isPlace, Cond.code yX2_isPlace cX2_isPlace 2 (some .boolean), Cond.methodLink RX2 44 yX2_ageOf, Cond.instanceMethod yX2_ageOf, Cond.selects RX2 yX2_ageOf yX2_ageOf, Cond.code yX2_ageOf cX2_ageOf 2 (some .int), Cond.methodLink RX3 148 yX3_finishOldest, Cond.instanceMethod yX3_finishOldest, Cond.selects RX3 yX3_finishOldest yX3_finishOldest, Cond.code yX3_finishOldest cX3_finishOldest 3 none, Cond.fieldLink RX3 42 "RenameRows" "nameSure" "[I", Cond.fieldLink RX3 18 "RenameRows" "names" "LRenameRows$Names;", Cond.methodLink RX3 212 yX2_registerAt, Cond.instanceMethod yX2_registerAt, Cond.selects RX2 yX2_registerAt yX2_registerAt, Cond.code yX2_registerAt cX2_registerAt 2 (some .int)]
def wsX3_commit_r4 : List Cond := [Cond.fieldLink RX2 24 "RenameRows$Ring" "register" "[I", Cond.methodLink RX3 85 yX3_isRegister, Cond.instanceMethod yX3_isRegister, Cond.selects RX3 yX3_isRegister yX3_isRegister, Cond.code yX3_isRegister cX3_isRegister 2 (some .boolean), Cond.fieldLink RX3 38 "RenameRows" "nameNow" "[I", Cond.methodLink RX3 129 yX2_givenAt, Cond.instanceMethod yX2_givenAt, Cond.selects RX2 yX2_givenAt yX2_givenAt, Cond.code yX2_givenAt cX2_givenAt 2 (some .int), Cond.fieldLink RX2 18 "RenameRows$Ring" "given" "[I", Cond.methodLink RX3 209 yX2_knownAt, Cond.instanceMethod yX2_knownAt, Cond.selects RX2 yX2_knownAt yX2_knownAt, Cond.code yX2_knownAt cX2_knownAt 2 (some .int), Cond.fieldLink RX2 21 "RenameRows$Ring" "known" "[I", Cond.methodLink RX3 248 yX1_giveBack, Cond.instanceMethod yX1_giveBack, Cond.selects RX1 yX1_giveBack yX1_giveBack, Cond.initialized RX1, Cond.code yX1_giveBack cX1_giveBack 2 none, Cond.fieldLink RX1 9 "RenameRows$Names" "held" "[I", Cond.fieldLink RX1 19 "RenameRows$Names" "queued" "[I", Cond.fieldLink RX1 22 "RenameRows$Names" "free" "I"]
def wsX3_commit_r5 : List Cond := [Cond.methodLink RX1 26 yX1_isName, Cond.instanceMethod yX1_isName, Cond.selects RX1 yX1_isName yX1_isName, Cond.code yX1_isName cX1_isName 2 (some .boolean), Cond.methodLink RX1 30 yX1_slotOf, Cond.instanceMethod yX1_slotOf, Cond.selects RX1 yX1_slotOf yX1_slotOf, Cond.code yX1_slotOf cX1_slotOf 3 (some .int), Cond.fieldLink RX1 34 "RenameRows$Names" "first" "I", Cond.methodLink RX3 251 yX2_dropOldest, Cond.instanceMethod yX2_dropOldest, Cond.selects RX2 yX2_dropOldest yX2_dropOldest, Cond.code yX2_dropOldest cX2_dropOldest 1 none, Cond.methodLink RX2 54 yX2_placeOfAge, Cond.instanceMethod yX2_placeOfAge, Cond.selects RX2 yX2_placeOfAge yX2_placeOfAge, Cond.code yX2_placeOfAge cX2_placeOfAge 3 (some .int)]
def wsX3_commit : List Cond := .code yX3_commit cX3_commit 4 (some .int) :: ((wsX3_commit_r1 ++ (wsX3_commit_r2 ++ (wsX3_commit_r3 ++ (wsX3_commit_r4 ++ wsX3_commit_r5)))) ++ wsX30 ++ wsX00 ++ wsX20 ++ wsX10 ++ (vx_atS RX3 109 "java/lang/IllegalArgumentException" ["java/lang/RuntimeException", "java/lang/Exception"]).filter goodWord)
def wsX3_branch_r1 : List Cond := [Cond.fieldLink RX3 34 "RenameRows" "marks" "LRenameRows$Marks;", Cond.fieldLink RX3 27 "RenameRows" "ring" "LRenameRows$Ring;", Cond.methodLink RX3 151 yX2_rowsSinceBeginning, Cond.instanceMethod yX2_rowsSinceBeginning, Cond.selects RX2 yX2_rowsSinceBeginning yX2_rowsSinceBeginning, Cond.initialized RX2, Cond.code yX2_rowsSinceBeginning cX2_rowsSinceBeginning 1 (some .int), Cond.fieldLink RX2 37 "RenameRows$Ring" "done" "I", Cond.fieldLink RX2 33 "RenameRows$Ring" "rows" "I", Cond.methodLink RX3 154 yX0_takeLowest, Cond.instanceMethod yX0_takeLowest, Cond.selects RX0 yX0_takeLowest yX0_takeLowest, Cond.initialized RX0, Cond.code yX0_takeLowest cX0_takeLowest 3 (some .int), Cond.fieldLink RX0 22 "RenameRows$Marks" "taken" "I", Cond.fieldLink RX0 9 "RenameRows$Marks" "before" "[I", Cond.fieldLink RX0 15 "RenameRows$Marks" "byTurn" "[I", Cond.methodLink RX0 30 yX0_isFree, Cond.instanceMethod yX0_isFree, Cond.selects RX0 yX0_isFree yX0_isFree, Cond.code yX0_isFree cX0_isFree 2 (some .boolean), Cond.methodLink RX0 18 yX0_turnOf, Cond.instanceMethod yX0_turnOf, Cond.selects RX0 yX0_turnOf yX0_turnOf]
def wsX3_branch_r2 : List Cond := [Cond.code yX0_turnOf cX0_turnOf 3 (some .int)]
def wsX3_branch : List Cond := .code yX3_branch cX3_branch 1 (some .int) :: ((wsX3_branch_r1 ++ wsX3_branch_r2) ++ wsX30 ++ wsX20 ++ wsX00)
def wsX3_right_r1 : List Cond := [Cond.classLink RX3 100 "java/lang/IllegalStateException", Cond.initialized "java/lang/IllegalStateException", Cond.fieldLink RX3 34 "RenameRows" "marks" "LRenameRows$Marks;", Cond.classLink RX3 52 RJx00060, Cond.instantiable RJx00060 6, Cond.initialized RJx00060, Cond.methodLink RX3 157 yX0_isMark, Cond.instanceMethod yX0_isMark, Cond.selects RX0 yX0_isMark yX0_isMark, Cond.initialized RX0, Cond.code yX0_isMark cX0_isMark 2 (some .boolean), Cond.methodLink RX3 162 yX0_isFree, Cond.instanceMethod yX0_isFree, Cond.selects RX0 yX0_isFree yX0_isFree, Cond.code yX0_isFree cX0_isFree 2 (some .boolean), Cond.methodLink RX0 18 yX0_turnOf, Cond.instanceMethod yX0_turnOf, Cond.selects RX0 yX0_turnOf yX0_turnOf, Cond.code yX0_turnOf cX0_turnOf 3 (some .int), Cond.fieldLink RX0 22 "RenameRows$Marks" "taken" "I", Cond.fieldLink RX0 15 "RenameRows$Marks" "byTurn" "[I", Cond.methodLink RX3 167 yX0_release, Cond.instanceMethod yX0_release, Cond.selects RX0 yX0_release yX0_release]
def wsX3_right_r2 : List Cond := [Cond.code yX0_release cX0_release 4 none, Cond.methodLink RX3 170 yX0_takenCount, Cond.instanceMethod yX0_takenCount, Cond.selects RX0 yX0_takenCount yX0_takenCount, Cond.code yX0_takenCount cX0_takenCount 1 (some .int)]
def wsX3_right : List Cond := .code yX3_right cX3_right 2 (some .int) :: ((wsX3_right_r1 ++ wsX3_right_r2) ++ wsX30 ++ wsJx000600 ++ wsX00 ++ (vx_atS RX3 104 "java/lang/IllegalStateException" ["java/lang/RuntimeException", "java/lang/Exception"]).filter goodWord)
def wsX3_takeBackLast_r1 : List Cond := [Cond.fieldLink RX3 27 "RenameRows" "ring" "LRenameRows$Ring;", Cond.fieldLink RX3 18 "RenameRows" "names" "LRenameRows$Names;", Cond.fieldLink RX3 38 "RenameRows" "nameNow" "[I", Cond.methodLink RX3 254 yX2_lastPlace, Cond.instanceMethod yX2_lastPlace, Cond.selects RX2 yX2_lastPlace yX2_lastPlace, Cond.initialized RX2, Cond.code yX2_lastPlace cX2_lastPlace 1 (some .int), Cond.fieldLink RX2 33 "RenameRows$Ring" "rows" "I", Cond.methodLink RX2 54 yX2_placeOfAge, Cond.instanceMethod yX2_placeOfAge, Cond.selects RX2 yX2_placeOfAge yX2_placeOfAge, Cond.code yX2_placeOfAge cX2_placeOfAge 3 (some .int), Cond.fieldLink RX2 51 "RenameRows$Ring" "oldest" "I", Cond.fieldLink RX2 30 "RenameRows$Ring" "state" "[I", Cond.methodLink RX3 212 yX2_registerAt, Cond.instanceMethod yX2_registerAt, Cond.selects RX2 yX2_registerAt yX2_registerAt, Cond.code yX2_registerAt cX2_registerAt 2 (some .int), Cond.fieldLink RX2 24 "RenameRows$Ring" "register" "[I", Cond.methodLink RX2 40 yX2_isPlace, Cond.instanceMethod yX2_isPlace, Cond.selects RX2 yX2_isPlace yX2_isPlace, Cond.code yX2_isPlace cX2_isPlace 2 (some .boolean)]
def wsX3_takeBackLast_r2 : List Cond := [Cond.methodLink RX3 85 yX3_isRegister, Cond.instanceMethod yX3_isRegister, Cond.selects RX3 yX3_isRegister yX3_isRegister, Cond.initialized RX3, Cond.code yX3_isRegister cX3_isRegister 2 (some .boolean), Cond.methodLink RX3 129 yX2_givenAt, Cond.instanceMethod yX2_givenAt, Cond.selects RX2 yX2_givenAt yX2_givenAt, Cond.code yX2_givenAt cX2_givenAt 2 (some .int), Cond.fieldLink RX2 18 "RenameRows$Ring" "given" "[I", Cond.methodLink RX3 248 yX1_giveBack, Cond.instanceMethod yX1_giveBack, Cond.selects RX1 yX1_giveBack yX1_giveBack, Cond.initialized RX1, Cond.code yX1_giveBack cX1_giveBack 2 none, Cond.fieldLink RX1 9 "RenameRows$Names" "held" "[I", Cond.fieldLink RX1 19 "RenameRows$Names" "queued" "[I", Cond.fieldLink RX1 22 "RenameRows$Names" "free" "I", Cond.methodLink RX1 26 yX1_isName, Cond.instanceMethod yX1_isName, Cond.selects RX1 yX1_isName yX1_isName, Cond.code yX1_isName cX1_isName 2 (some .boolean), Cond.methodLink RX1 30 yX1_slotOf, Cond.instanceMethod yX1_slotOf]
def wsX3_takeBackLast_r3 : List Cond := [Cond.selects RX1 yX1_slotOf yX1_slotOf, Cond.code yX1_slotOf cX1_slotOf 3 (some .int), Cond.fieldLink RX1 34 "RenameRows$Names" "first" "I", Cond.methodLink RX3 209 yX2_knownAt, Cond.instanceMethod yX2_knownAt, Cond.selects RX2 yX2_knownAt yX2_knownAt, Cond.code yX2_knownAt cX2_knownAt 2 (some .int), Cond.fieldLink RX2 21 "RenameRows$Ring" "known" "[I", Cond.methodLink RX3 257 yX2_dropLast, Cond.instanceMethod yX2_dropLast, Cond.selects RX2 yX2_dropLast yX2_dropLast, Cond.code yX2_dropLast cX2_dropLast 1 none]
def wsX3_takeBackLast : List Cond := .code yX3_takeBackLast cX3_takeBackLast 3 none :: ((wsX3_takeBackLast_r1 ++ (wsX3_takeBackLast_r2 ++ wsX3_takeBackLast_r3)) ++ wsX30 ++ wsX20 ++ wsX10)
def wsX3_wrong_r1 : List Cond := [Cond.classLink RX3 100 "java/lang/IllegalStateException", Cond.initialized "java/lang/IllegalStateException", Cond.fieldLink RX3 34 "RenameRows" "marks" "LRenameRows$Marks;", Cond.classLink RX3 52 RJx00060, Cond.instantiable RJx00060 6, Cond.initialized RJx00060, Cond.fieldLink RX3 27 "RenameRows" "ring" "LRenameRows$Ring;", Cond.fieldLink RX3 182 "RenameRows" "takenBack" "I", Cond.methodLink RX3 157 yX0_isMark, Cond.instanceMethod yX0_isMark, Cond.selects RX0 yX0_isMark yX0_isMark, Cond.initialized RX0, Cond.code yX0_isMark cX0_isMark 2 (some .boolean), Cond.methodLink RX3 162 yX0_isFree, Cond.instanceMethod yX0_isFree, Cond.selects RX0 yX0_isFree yX0_isFree, Cond.code yX0_isFree cX0_isFree 2 (some .boolean), Cond.methodLink RX0 18 yX0_turnOf, Cond.instanceMethod yX0_turnOf, Cond.selects RX0 yX0_turnOf yX0_turnOf, Cond.code yX0_turnOf cX0_turnOf 3 (some .int), Cond.fieldLink RX0 22 "RenameRows$Marks" "taken" "I", Cond.fieldLink RX0 15 "RenameRows$Marks" "byTurn" "[I", Cond.methodLink RX3 151 yX2_rowsSinceBeginning]
def wsX3_wrong_r2 : List Cond := [Cond.instanceMethod yX2_rowsSinceBeginning, Cond.selects RX2 yX2_rowsSinceBeginning yX2_rowsSinceBeginning, Cond.initialized RX2, Cond.code yX2_rowsSinceBeginning cX2_rowsSinceBeginning 1 (some .int), Cond.fieldLink RX2 37 "RenameRows$Ring" "done" "I", Cond.fieldLink RX2 33 "RenameRows$Ring" "rows" "I", Cond.methodLink RX3 173 yX0_rowsBefore, Cond.instanceMethod yX0_rowsBefore, Cond.selects RX0 yX0_rowsBefore yX0_rowsBefore, Cond.code yX0_rowsBefore cX0_rowsBefore 2 (some .int), Cond.fieldLink RX0 9 "RenameRows$Marks" "before" "[I", Cond.methodLink RX0 26 yX0_isMark, Cond.methodLink RX3 176 yX3_takeBackLast, Cond.instanceMethod yX3_takeBackLast, Cond.selects RX3 yX3_takeBackLast yX3_takeBackLast, Cond.initialized RX3, Cond.code yX3_takeBackLast cX3_takeBackLast 3 none, Cond.fieldLink RX3 18 "RenameRows" "names" "LRenameRows$Names;", Cond.fieldLink RX3 38 "RenameRows" "nameNow" "[I", Cond.methodLink RX3 254 yX2_lastPlace, Cond.instanceMethod yX2_lastPlace, Cond.selects RX2 yX2_lastPlace yX2_lastPlace, Cond.code yX2_lastPlace cX2_lastPlace 1 (some .int), Cond.methodLink RX2 54 yX2_placeOfAge]
def wsX3_wrong_r3 : List Cond := [Cond.instanceMethod yX2_placeOfAge, Cond.selects RX2 yX2_placeOfAge yX2_placeOfAge, Cond.code yX2_placeOfAge cX2_placeOfAge 3 (some .int), Cond.fieldLink RX2 51 "RenameRows$Ring" "oldest" "I", Cond.fieldLink RX2 30 "RenameRows$Ring" "state" "[I", Cond.methodLink RX3 212 yX2_registerAt, Cond.instanceMethod yX2_registerAt, Cond.selects RX2 yX2_registerAt yX2_registerAt, Cond.code yX2_registerAt cX2_registerAt 2 (some .int), Cond.fieldLink RX2 24 "RenameRows$Ring" "register" "[I", Cond.methodLink RX2 40 yX2_isPlace, Cond.instanceMethod yX2_isPlace, Cond.selects RX2 yX2_isPlace yX2_isPlace, Cond.code yX2_isPlace cX2_isPlace 2 (some .boolean), Cond.methodLink RX3 85 yX3_isRegister, Cond.instanceMethod yX3_isRegister, Cond.selects RX3 yX3_isRegister yX3_isRegister, Cond.code yX3_isRegister cX3_isRegister 2 (some .boolean), Cond.methodLink RX3 129 yX2_givenAt, Cond.instanceMethod yX2_givenAt, Cond.selects RX2 yX2_givenAt yX2_givenAt, Cond.code yX2_givenAt cX2_givenAt 2 (some .int), Cond.fieldLink RX2 18 "RenameRows$Ring" "given" "[I", Cond.methodLink RX3 248 yX1_giveBack]
def wsX3_wrong_r4 : List Cond := [Cond.instanceMethod yX1_giveBack, Cond.selects RX1 yX1_giveBack yX1_giveBack, Cond.initialized RX1, Cond.code yX1_giveBack cX1_giveBack 2 none, Cond.fieldLink RX1 9 "RenameRows$Names" "held" "[I", Cond.fieldLink RX1 19 "RenameRows$Names" "queued" "[I", Cond.fieldLink RX1 22 "RenameRows$Names" "free" "I", Cond.methodLink RX1 26 yX1_isName, Cond.instanceMethod yX1_isName, Cond.selects RX1 yX1_isName yX1_isName, Cond.code yX1_isName cX1_isName 2 (some .boolean), Cond.methodLink RX1 30 yX1_slotOf, Cond.instanceMethod yX1_slotOf, Cond.selects RX1 yX1_slotOf yX1_slotOf, Cond.code yX1_slotOf cX1_slotOf 3 (some .int), Cond.fieldLink RX1 34 "RenameRows$Names" "first" "I", Cond.methodLink RX3 209 yX2_knownAt, Cond.instanceMethod yX2_knownAt, Cond.selects RX2 yX2_knownAt yX2_knownAt, Cond.code yX2_knownAt cX2_knownAt 2 (some .int), Cond.fieldLink RX2 21 "RenameRows$Ring" "known" "[I", Cond.methodLink RX3 257 yX2_dropLast, Cond.instanceMethod yX2_dropLast, Cond.selects RX2 yX2_dropLast yX2_dropLast]
def wsX3_wrong_r5 : List Cond := [Cond.code yX2_dropLast cX2_dropLast 1 none, Cond.methodLink RX3 179 yX0_releaseFrom, Cond.instanceMethod yX0_releaseFrom, Cond.selects RX0 yX0_releaseFrom yX0_releaseFrom, Cond.code yX0_releaseFrom cX0_releaseFrom 3 none]
def wsX3_wrong : List Cond := .code yX3_wrong cX3_wrong 4 (some .int) :: ((wsX3_wrong_r1 ++ (wsX3_wrong_r2 ++ (wsX3_wrong_r3 ++ (wsX3_wrong_r4 ++ wsX3_wrong_r5)))) ++ wsX30 ++ wsJx000600 ++ wsX00 ++ wsX20 ++ wsX10 ++ (vx_atS RX3 104 "java/lang/IllegalStateException" ["java/lang/RuntimeException", "java/lang/Exception"]).filter goodWord)
def wsX3_name : List Cond := .code yX3_name cX3_name 2 (some .int) :: ([.classLink RX3 52 RJx00060, .instantiable RJx00060 6, .initialized RJx00060, .fieldLink RX3 38 "RenameRows" "nameNow" "[I", .methodLink RX3 85 yX3_isRegister, .instanceMethod yX3_isRegister, .selects RX3 yX3_isRegister yX3_isRegister, .initialized RX3, .code yX3_isRegister cX3_isRegister 2 (some .boolean)] ++ wsJx000600 ++ wsX30)
def wsX3_sure : List Cond := .code yX3_sure cX3_sure 2 (some .int) :: ([.classLink RX3 52 RJx00060, .instantiable RJx00060 6, .initialized RJx00060, .fieldLink RX3 42 "RenameRows" "nameSure" "[I", .methodLink RX3 85 yX3_isRegister, .instanceMethod yX3_isRegister, .selects RX3 yX3_isRegister yX3_isRegister, .initialized RX3, .code yX3_isRegister cX3_isRegister 2 (some .boolean), .fieldLink RX3 38 "RenameRows" "nameNow" "[I"] ++ wsJx000600 ++ wsX30)
def wsX3_shares : List Cond := .code yX3_shares cX3_shares 2 (some .int) :: ([.fieldLink RX3 18 "RenameRows" "names" "LRenameRows$Names;", .classLink RX3 52 RJx00060, .instantiable RJx00060 6, .initialized RJx00060, .methodLink RX3 185 yX1_isName, .instanceMethod yX1_isName, .selects RX1 yX1_isName yX1_isName, .initialized RX1, .code yX1_isName cX1_isName 2 (some .boolean), .fieldLink RX1 9 "RenameRows$Names" "held" "[I", .methodLink RX3 190 yX1_sharesOf, .instanceMethod yX1_sharesOf, .selects RX1 yX1_sharesOf yX1_sharesOf, .code yX1_sharesOf cX1_sharesOf 2 (some .int), .methodLink RX1 26 yX1_isName] ++ wsX30 ++ wsJx000600 ++ wsX10)
def wsX3_queue : List Cond := .code yX3_queue cX3_queue 2 (some .int) :: ([.classLink RX3 105 "java/lang/IllegalArgumentException", .initialized "java/lang/IllegalArgumentException", .fieldLink RX3 18 "RenameRows" "names" "LRenameRows$Names;", .methodLink RX3 67 yX1_freeCount, .instanceMethod yX1_freeCount, .selects RX1 yX1_freeCount yX1_freeCount, .initialized RX1, .code yX1_freeCount cX1_freeCount 1 (some .int), .fieldLink RX1 22 "RenameRows$Names" "free" "I", .methodLink RX3 195 yX1_freeAt, .instanceMethod yX1_freeAt, .selects RX1 yX1_freeAt yX1_freeAt, .code yX1_freeAt cX1_freeAt 2 (some .int), .fieldLink RX1 19 "RenameRows$Names" "queued" "[I", .methodLink RX1 30 yX1_slotOf, .instanceMethod yX1_slotOf, .selects RX1 yX1_slotOf yX1_slotOf, .code yX1_slotOf cX1_slotOf 3 (some .int), .fieldLink RX1 34 "RenameRows$Names" "first" "I"] ++ wsX30 ++ wsX10 ++ (vx_atS RX3 109 "java/lang/IllegalArgumentException" ["java/lang/RuntimeException", "java/lang/Exception"]).filter goodWord)
def wsX3_row_r1 : List Cond := [Cond.classLink RX3 100 "java/lang/IllegalStateException", Cond.initialized "java/lang/IllegalStateException", Cond.classLink RX3 105 "java/lang/IllegalArgumentException", Cond.initialized "java/lang/IllegalArgumentException", Cond.fieldLink RX3 27 "RenameRows" "ring" "LRenameRows$Ring;", Cond.classLink RX3 52 RJx00060, Cond.instantiable RJx00060 6, Cond.initialized RJx00060, Cond.methodLink RX3 91 yX2_isPlace, Cond.instanceMethod yX2_isPlace, Cond.selects RX2 yX2_isPlace yX2_isPlace, Cond.initialized RX2, Cond.code yX2_isPlace cX2_isPlace 2 (some .boolean), Cond.fieldLink RX2 30 "RenameRows$Ring" "state" "[I", Cond.methodLink RX3 198 yX2_holdsRow, Cond.instanceMethod yX2_holdsRow, Cond.selects RX2 yX2_holdsRow yX2_holdsRow, Cond.code yX2_holdsRow cX2_holdsRow 2 (some .boolean), Cond.fieldLink RX2 33 "RenameRows$Ring" "rows" "I", Cond.methodLink RX2 40 yX2_isPlace, Cond.methodLink RX2 44 yX2_ageOf, Cond.instanceMethod yX2_ageOf, Cond.selects RX2 yX2_ageOf yX2_ageOf, Cond.code yX2_ageOf cX2_ageOf 2 (some .int)]
def wsX3_row_r2 : List Cond := [Cond.fieldLink RX2 51 "RenameRows$Ring" "oldest" "I", Cond.methodLink RX3 203 yX2_readAAt, Cond.instanceMethod yX2_readAAt, Cond.selects RX2 yX2_readAAt yX2_readAAt, Cond.code yX2_readAAt cX2_readAAt 2 (some .int), Cond.fieldLink RX2 9 "RenameRows$Ring" "readA" "[I", Cond.methodLink RX3 206 yX2_readBAt, Cond.instanceMethod yX2_readBAt, Cond.selects RX2 yX2_readBAt yX2_readBAt, Cond.code yX2_readBAt cX2_readBAt 2 (some .int), Cond.fieldLink RX2 15 "RenameRows$Ring" "readB" "[I", Cond.methodLink RX3 129 yX2_givenAt, Cond.instanceMethod yX2_givenAt, Cond.selects RX2 yX2_givenAt yX2_givenAt, Cond.code yX2_givenAt cX2_givenAt 2 (some .int), Cond.fieldLink RX2 18 "RenameRows$Ring" "given" "[I", Cond.methodLink RX3 209 yX2_knownAt, Cond.instanceMethod yX2_knownAt, Cond.selects RX2 yX2_knownAt yX2_knownAt, Cond.code yX2_knownAt cX2_knownAt 2 (some .int), Cond.fieldLink RX2 21 "RenameRows$Ring" "known" "[I", Cond.methodLink RX3 212 yX2_registerAt, Cond.instanceMethod yX2_registerAt, Cond.selects RX2 yX2_registerAt yX2_registerAt]
def wsX3_row_r3 : List Cond := [Cond.code yX2_registerAt cX2_registerAt 2 (some .int), Cond.fieldLink RX2 24 "RenameRows$Ring" "register" "[I", Cond.methodLink RX3 110 yX2_portAt, Cond.instanceMethod yX2_portAt, Cond.selects RX2 yX2_portAt yX2_portAt, Cond.code yX2_portAt cX2_portAt 2 (some .int), Cond.fieldLink RX2 27 "RenameRows$Ring" "port" "[I", Cond.methodLink RX3 215 yX2_stateAt, Cond.instanceMethod yX2_stateAt, Cond.selects RX2 yX2_stateAt yX2_stateAt, Cond.code yX2_stateAt cX2_stateAt 2 (some .int)]
def wsX3_row : List Cond := .code yX3_row cX3_row 3 (some .int) :: ((wsX3_row_r1 ++ (wsX3_row_r2 ++ wsX3_row_r3)) ++ wsX30 ++ wsJx000600 ++ wsX20 ++ (vx_atS RX3 104 "java/lang/IllegalStateException" ["java/lang/RuntimeException", "java/lang/Exception"]).filter goodWord ++ (vx_atS RX3 109 "java/lang/IllegalArgumentException" ["java/lang/RuntimeException", "java/lang/Exception"]).filter goodWord)
def wsX3_count_r1 : List Cond := [Cond.fieldLink RX3 38 "RenameRows" "nameNow" "[I", Cond.fieldLink RX3 18 "RenameRows" "names" "LRenameRows$Names;", Cond.fieldLink RX3 27 "RenameRows" "ring" "LRenameRows$Ring;", Cond.fieldLink RX3 34 "RenameRows" "marks" "LRenameRows$Marks;", Cond.fieldLink RX3 182 "RenameRows" "takenBack" "I", Cond.fieldLink RX3 63 "RenameRows" "wantsOfPlace" "I", Cond.fieldLink RX3 71 "RenameRows" "wantsOfName" "I", Cond.methodLink RX3 220 yX1_total, Cond.instanceMethod yX1_total, Cond.selects RX1 yX1_total yX1_total, Cond.initialized RX1, Cond.code yX1_total cX1_total 1 (some .int), Cond.fieldLink RX1 9 "RenameRows$Names" "held" "[I", Cond.methodLink RX3 223 yX2_placeCount, Cond.instanceMethod yX2_placeCount, Cond.selects RX2 yX2_placeCount yX2_placeCount, Cond.initialized RX2, Cond.code yX2_placeCount cX2_placeCount 1 (some .int), Cond.fieldLink RX2 30 "RenameRows$Ring" "state" "[I", Cond.methodLink RX3 226 yX2_rowCount, Cond.instanceMethod yX2_rowCount, Cond.selects RX2 yX2_rowCount yX2_rowCount, Cond.code yX2_rowCount cX2_rowCount 1 (some .int), Cond.fieldLink RX2 33 "RenameRows$Ring" "rows" "I"]
def wsX3_count_r2 : List Cond := [Cond.methodLink RX3 67 yX1_freeCount, Cond.instanceMethod yX1_freeCount, Cond.selects RX1 yX1_freeCount yX1_freeCount, Cond.code yX1_freeCount cX1_freeCount 1 (some .int), Cond.fieldLink RX1 22 "RenameRows$Names" "free" "I", Cond.methodLink RX3 170 yX0_takenCount, Cond.instanceMethod yX0_takenCount, Cond.selects RX0 yX0_takenCount yX0_takenCount, Cond.initialized RX0, Cond.code yX0_takenCount cX0_takenCount 1 (some .int), Cond.fieldLink RX0 22 "RenameRows$Marks" "taken" "I", Cond.methodLink RX3 229 yX2_doneCount, Cond.instanceMethod yX2_doneCount, Cond.selects RX2 yX2_doneCount yX2_doneCount, Cond.code yX2_doneCount cX2_doneCount 1 (some .int), Cond.fieldLink RX2 37 "RenameRows$Ring" "done" "I", Cond.methodLink RX3 145 yX2_oldestPlace, Cond.instanceMethod yX2_oldestPlace, Cond.selects RX2 yX2_oldestPlace yX2_oldestPlace, Cond.code yX2_oldestPlace cX2_oldestPlace 1 (some .int), Cond.fieldLink RX2 51 "RenameRows$Ring" "oldest" "I"]
def wsX3_count : List Cond := .code yX3_count cX3_count 2 (some .int) :: ((wsX3_count_r1 ++ wsX3_count_r2) ++ wsX30 ++ wsX10 ++ wsX20 ++ wsX00)
def wsX4_rest : List Cond := .code yX4_rest cX4_rest 3 (some .int) :: ([])
def wsX4_init_r1 : List Cond := [Cond.methodLink RX4 1 objectInit, Cond.instanceMethod objectInit, Cond.code objectInit ⟨#[0xb1]⟩ 1 none, Cond.arrayClass .int, Cond.fieldLink RX4 7 "RenameRowsModel" "name" "[I", Cond.fieldLink RX4 13 "RenameRowsModel" "sure" "[I", Cond.fieldLink RX4 16 "RenameRowsModel" "shares" "[I", Cond.arrayClass .boolean, Cond.fieldLink RX4 19 "RenameRowsModel" "ready" "[Z", Cond.fieldLink RX4 23 "RenameRowsModel" "queue" "[I", Cond.fieldLink RX4 26 "RenameRowsModel" "first" "[I", Cond.fieldLink RX4 29 "RenameRowsModel" "second" "[I", Cond.fieldLink RX4 32 "RenameRowsModel" "gave" "[I", Cond.fieldLink RX4 35 "RenameRowsModel" "knew" "[I", Cond.fieldLink RX4 38 "RenameRowsModel" "register" "[I", Cond.fieldLink RX4 41 "RenameRowsModel" "ports" "[I", Cond.fieldLink RX4 44 "RenameRowsModel" "state" "[I", Cond.fieldLink RX4 47 "RenameRowsModel" "marked" "[Z", Cond.fieldLink RX4 50 "RenameRowsModel" "before" "[I", Cond.fieldLink RX4 53 "RenameRowsModel" "age" "[I", Cond.fieldLink RX4 56 "RenameRowsModel" "went" "[I", Cond.fieldLink RX4 63 "RenameRowsModel" "registers" "I", Cond.fieldLink RX4 67 "RenameRowsModel" "names" "I", Cond.fieldLink RX4 70 "RenameRowsModel" "places" "I"]
def wsX4_init_r2 : List Cond := [Cond.fieldLink RX4 73 "RenameRowsModel" "free" "I", Cond.methodLink RX4 59 yX4_rest, Cond.static yX4_rest, Cond.initialized RX4, Cond.code yX4_rest cX4_rest 3 (some .int)]
def wsX4_init : List Cond := .code yX4_init cX4_init 5 none :: ((wsX4_init_r1 ++ wsX4_init_r2) ++ wsX40)
def wsX4_thrown : List Cond := .code yX4_thrown cX4_thrown 1 (some .int) :: ([.fieldLink RX4 76 "RenameRowsModel" "thrown" "I"] ++ wsX40)
def wsX4_throwing : List Cond := .code yX4_throwing cX4_throwing 4 (some .boolean) :: ([.fieldLink RX4 76 "RenameRowsModel" "thrown" "I"] ++ wsX40)
def wsX4_isRegister : List Cond := .code yX4_isRegister cX4_isRegister 2 (some .boolean) :: ([.fieldLink RX4 63 "RenameRowsModel" "registers" "I"] ++ wsX40)
def wsX4_isReady : List Cond := .code yX4_isReady cX4_isReady 2 (some .boolean) :: ([.fieldLink RX4 19 "RenameRowsModel" "ready" "[Z"] ++ wsX40)
def wsX4_mayGo : List Cond := .code yX4_mayGo cX4_mayGo 2 (some .boolean) :: ([.fieldLink RX4 44 "RenameRowsModel" "state" "[I", .fieldLink RX4 26 "RenameRowsModel" "first" "[I", .fieldLink RX4 29 "RenameRowsModel" "second" "[I", .methodLink RX4 79 yX4_isReady, .instanceMethod yX4_isReady, .selects RX4 yX4_isReady yX4_isReady, .initialized RX4, .code yX4_isReady cX4_isReady 2 (some .boolean), .fieldLink RX4 19 "RenameRowsModel" "ready" "[Z"] ++ wsX40)
def wsX4_placeOf : List Cond := .code yX4_placeOf cX4_placeOf 2 (some .int) :: ([.fieldLink RX4 83 "RenameRowsModel" "head" "I", .fieldLink RX4 70 "RenameRowsModel" "places" "I"] ++ wsX40)
def wsX4_at : List Cond := .code yX4_at cX4_at 3 (some .int) :: ([.fieldLink RX4 83 "RenameRowsModel" "head" "I", .fieldLink RX4 70 "RenameRowsModel" "places" "I", .fieldLink RX4 86 "RenameRowsModel" "rows" "I"] ++ wsX40)
def wsX4_isPlace : List Cond := .code yX4_isPlace cX4_isPlace 2 (some .boolean) :: ([.fieldLink RX4 70 "RenameRowsModel" "places" "I"] ++ wsX40)
def wsX4_giveBack : List Cond := .code yX4_giveBack cX4_giveBack 2 none :: ([.fieldLink RX4 16 "RenameRowsModel" "shares" "[I", .fieldLink RX4 23 "RenameRowsModel" "queue" "[I", .fieldLink RX4 73 "RenameRowsModel" "free" "I"] ++ wsX40)
def wsX4_takeName : List Cond := .code yX4_takeName cX4_takeName 3 (some .int) :: ([.fieldLink RX4 23 "RenameRowsModel" "queue" "[I", .fieldLink RX4 73 "RenameRowsModel" "free" "I"] ++ wsX40)
def wsX4_add : List Cond := .code yX4_add cX4_add 6 (some .int) :: ([.fieldLink RX4 26 "RenameRowsModel" "first" "[I", .fieldLink RX4 86 "RenameRowsModel" "rows" "I", .fieldLink RX4 29 "RenameRowsModel" "second" "[I", .fieldLink RX4 32 "RenameRowsModel" "gave" "[I", .fieldLink RX4 35 "RenameRowsModel" "knew" "[I", .fieldLink RX4 7 "RenameRowsModel" "name" "[I", .fieldLink RX4 38 "RenameRowsModel" "register" "[I", .fieldLink RX4 41 "RenameRowsModel" "ports" "[I", .fieldLink RX4 44 "RenameRowsModel" "state" "[I", .methodLink RX4 89 yX4_placeOf, .instanceMethod yX4_placeOf, .selects RX4 yX4_placeOf yX4_placeOf, .initialized RX4, .code yX4_placeOf cX4_placeOf 2 (some .int), .fieldLink RX4 83 "RenameRowsModel" "head" "I", .fieldLink RX4 70 "RenameRowsModel" "places" "I"] ++ wsX40)
def wsX4_dispatch_r1 : List Cond := [Cond.fieldLink RX4 86 "RenameRowsModel" "rows" "I", Cond.fieldLink RX4 70 "RenameRowsModel" "places" "I", Cond.fieldLink RX4 100 "RenameRowsModel" "noPlace" "I", Cond.fieldLink RX4 73 "RenameRowsModel" "free" "I", Cond.fieldLink RX4 103 "RenameRowsModel" "noName" "I", Cond.fieldLink RX4 7 "RenameRowsModel" "name" "[I", Cond.fieldLink RX4 16 "RenameRowsModel" "shares" "[I", Cond.fieldLink RX4 19 "RenameRowsModel" "ready" "[Z", Cond.methodLink RX4 93 yX4_isRegister, Cond.instanceMethod yX4_isRegister, Cond.selects RX4 yX4_isRegister yX4_isRegister, Cond.initialized RX4, Cond.code yX4_isRegister cX4_isRegister 2 (some .boolean), Cond.fieldLink RX4 63 "RenameRowsModel" "registers" "I", Cond.methodLink RX4 96 yX4_throwing, Cond.instanceMethod yX4_throwing, Cond.selects RX4 yX4_throwing yX4_throwing, Cond.code yX4_throwing cX4_throwing 4 (some .boolean), Cond.fieldLink RX4 76 "RenameRowsModel" "thrown" "I", Cond.methodLink RX4 106 yX4_takeName, Cond.instanceMethod yX4_takeName, Cond.selects RX4 yX4_takeName yX4_takeName, Cond.code yX4_takeName cX4_takeName 3 (some .int), Cond.fieldLink RX4 23 "RenameRowsModel" "queue" "[I"]
def wsX4_dispatch_r2 : List Cond := [Cond.methodLink RX4 110 yX4_add, Cond.instanceMethod yX4_add, Cond.selects RX4 yX4_add yX4_add, Cond.code yX4_add cX4_add 6 (some .int), Cond.fieldLink RX4 26 "RenameRowsModel" "first" "[I", Cond.fieldLink RX4 29 "RenameRowsModel" "second" "[I", Cond.fieldLink RX4 32 "RenameRowsModel" "gave" "[I", Cond.fieldLink RX4 35 "RenameRowsModel" "knew" "[I", Cond.fieldLink RX4 38 "RenameRowsModel" "register" "[I", Cond.fieldLink RX4 41 "RenameRowsModel" "ports" "[I", Cond.fieldLink RX4 44 "RenameRowsModel" "state" "[I", Cond.methodLink RX4 89 yX4_placeOf, Cond.instanceMethod yX4_placeOf, Cond.selects RX4 yX4_placeOf yX4_placeOf, Cond.code yX4_placeOf cX4_placeOf 2 (some .int), Cond.fieldLink RX4 83 "RenameRowsModel" "head" "I"]
def wsX4_dispatch : List Cond := .code yX4_dispatch cX4_dispatch 8 (some .int) :: ((wsX4_dispatch_r1 ++ wsX4_dispatch_r2) ++ wsX40)
def wsX4_move_r1 : List Cond := [Cond.fieldLink RX4 86 "RenameRowsModel" "rows" "I", Cond.fieldLink RX4 70 "RenameRowsModel" "places" "I", Cond.fieldLink RX4 100 "RenameRowsModel" "noPlace" "I", Cond.fieldLink RX4 16 "RenameRowsModel" "shares" "[I", Cond.fieldLink RX4 7 "RenameRowsModel" "name" "[I", Cond.methodLink RX4 93 yX4_isRegister, Cond.instanceMethod yX4_isRegister, Cond.selects RX4 yX4_isRegister yX4_isRegister, Cond.initialized RX4, Cond.code yX4_isRegister cX4_isRegister 2 (some .boolean), Cond.fieldLink RX4 63 "RenameRowsModel" "registers" "I", Cond.methodLink RX4 96 yX4_throwing, Cond.instanceMethod yX4_throwing, Cond.selects RX4 yX4_throwing yX4_throwing, Cond.code yX4_throwing cX4_throwing 4 (some .boolean), Cond.fieldLink RX4 76 "RenameRowsModel" "thrown" "I", Cond.methodLink RX4 110 yX4_add, Cond.instanceMethod yX4_add, Cond.selects RX4 yX4_add yX4_add, Cond.code yX4_add cX4_add 6 (some .int), Cond.fieldLink RX4 26 "RenameRowsModel" "first" "[I", Cond.fieldLink RX4 29 "RenameRowsModel" "second" "[I", Cond.fieldLink RX4 32 "RenameRowsModel" "gave" "[I", Cond.fieldLink RX4 35 "RenameRowsModel" "knew" "[I"]
def wsX4_move_r2 : List Cond := [Cond.fieldLink RX4 38 "RenameRowsModel" "register" "[I", Cond.fieldLink RX4 41 "RenameRowsModel" "ports" "[I", Cond.fieldLink RX4 44 "RenameRowsModel" "state" "[I", Cond.methodLink RX4 89 yX4_placeOf, Cond.instanceMethod yX4_placeOf, Cond.selects RX4 yX4_placeOf yX4_placeOf, Cond.code yX4_placeOf cX4_placeOf 2 (some .int), Cond.fieldLink RX4 83 "RenameRowsModel" "head" "I"]
def wsX4_move : List Cond := .code yX4_move cX4_move 3 (some .int) :: ((wsX4_move_r1 ++ wsX4_move_r2) ++ wsX40)
def wsX4_port : List Cond := .code yX4_port cX4_port 5 (some .int) :: ([.fieldLink RX4 44 "RenameRowsModel" "state" "[I", .fieldLink RX4 41 "RenameRowsModel" "ports" "[I", .methodLink RX4 114 yX4_isPlace, .instanceMethod yX4_isPlace, .selects RX4 yX4_isPlace yX4_isPlace, .initialized RX4, .code yX4_isPlace cX4_isPlace 2 (some .boolean), .fieldLink RX4 70 "RenameRowsModel" "places" "I", .methodLink RX4 117 yX4_at, .instanceMethod yX4_at, .selects RX4 yX4_at yX4_at, .code yX4_at cX4_at 3 (some .int), .fieldLink RX4 83 "RenameRowsModel" "head" "I", .fieldLink RX4 86 "RenameRowsModel" "rows" "I", .methodLink RX4 96 yX4_throwing, .instanceMethod yX4_throwing, .selects RX4 yX4_throwing yX4_throwing, .code yX4_throwing cX4_throwing 4 (some .boolean), .fieldLink RX4 76 "RenameRowsModel" "thrown" "I"] ++ wsX40)
def wsX4_select_r1 : List Cond := [Cond.fieldLink RX4 56 "RenameRowsModel" "went" "[I", Cond.fieldLink RX4 86 "RenameRowsModel" "rows" "I", Cond.fieldLink RX4 41 "RenameRowsModel" "ports" "[I", Cond.fieldLink RX4 44 "RenameRowsModel" "state" "[I", Cond.methodLink RX4 96 yX4_throwing, Cond.instanceMethod yX4_throwing, Cond.selects RX4 yX4_throwing yX4_throwing, Cond.initialized RX4, Cond.code yX4_throwing cX4_throwing 4 (some .boolean), Cond.fieldLink RX4 76 "RenameRowsModel" "thrown" "I", Cond.methodLink RX4 120 yX4_mayGo, Cond.instanceMethod yX4_mayGo, Cond.selects RX4 yX4_mayGo yX4_mayGo, Cond.code yX4_mayGo cX4_mayGo 2 (some .boolean), Cond.fieldLink RX4 26 "RenameRowsModel" "first" "[I", Cond.fieldLink RX4 29 "RenameRowsModel" "second" "[I", Cond.methodLink RX4 79 yX4_isReady, Cond.instanceMethod yX4_isReady, Cond.selects RX4 yX4_isReady yX4_isReady, Cond.code yX4_isReady cX4_isReady 2 (some .boolean), Cond.fieldLink RX4 19 "RenameRowsModel" "ready" "[Z", Cond.methodLink RX4 89 yX4_placeOf, Cond.instanceMethod yX4_placeOf, Cond.selects RX4 yX4_placeOf yX4_placeOf]
def wsX4_select_r2 : List Cond := [Cond.code yX4_placeOf cX4_placeOf 2 (some .int), Cond.fieldLink RX4 83 "RenameRowsModel" "head" "I", Cond.fieldLink RX4 70 "RenameRowsModel" "places" "I"]
def wsX4_select : List Cond := .code yX4_select cX4_select 5 (some .int) :: ((wsX4_select_r1 ++ wsX4_select_r2) ++ wsX40)
def wsX4_selected : List Cond := .code yX4_selected cX4_selected 2 (some .int) :: ([.fieldLink RX4 56 "RenameRowsModel" "went" "[I", .methodLink RX4 96 yX4_throwing, .instanceMethod yX4_throwing, .selects RX4 yX4_throwing yX4_throwing, .initialized RX4, .code yX4_throwing cX4_throwing 4 (some .boolean), .fieldLink RX4 76 "RenameRowsModel" "thrown" "I"] ++ wsX40)
def wsX4_mayGoAll : List Cond := .code yX4_mayGoAll cX4_mayGoAll 3 (some .int) :: ([.fieldLink RX4 86 "RenameRowsModel" "rows" "I", .methodLink RX4 120 yX4_mayGo, .instanceMethod yX4_mayGo, .selects RX4 yX4_mayGo yX4_mayGo, .initialized RX4, .code yX4_mayGo cX4_mayGo 2 (some .boolean), .fieldLink RX4 44 "RenameRowsModel" "state" "[I", .fieldLink RX4 26 "RenameRowsModel" "first" "[I", .fieldLink RX4 29 "RenameRowsModel" "second" "[I", .methodLink RX4 79 yX4_isReady, .instanceMethod yX4_isReady, .selects RX4 yX4_isReady yX4_isReady, .code yX4_isReady cX4_isReady 2 (some .boolean), .fieldLink RX4 19 "RenameRowsModel" "ready" "[Z"] ++ wsX40)
def wsX4_end_r1 : List Cond := [Cond.fieldLink RX4 44 "RenameRowsModel" "state" "[I", Cond.fieldLink RX4 32 "RenameRowsModel" "gave" "[I", Cond.fieldLink RX4 19 "RenameRowsModel" "ready" "[Z", Cond.methodLink RX4 114 yX4_isPlace, Cond.instanceMethod yX4_isPlace, Cond.selects RX4 yX4_isPlace yX4_isPlace, Cond.initialized RX4, Cond.code yX4_isPlace cX4_isPlace 2 (some .boolean), Cond.fieldLink RX4 70 "RenameRowsModel" "places" "I", Cond.methodLink RX4 117 yX4_at, Cond.instanceMethod yX4_at, Cond.selects RX4 yX4_at yX4_at, Cond.code yX4_at cX4_at 3 (some .int), Cond.fieldLink RX4 83 "RenameRowsModel" "head" "I", Cond.fieldLink RX4 86 "RenameRowsModel" "rows" "I", Cond.methodLink RX4 96 yX4_throwing, Cond.instanceMethod yX4_throwing, Cond.selects RX4 yX4_throwing yX4_throwing, Cond.code yX4_throwing cX4_throwing 4 (some .boolean), Cond.fieldLink RX4 76 "RenameRowsModel" "thrown" "I", Cond.methodLink RX4 123 yX4_mayGoAll, Cond.instanceMethod yX4_mayGoAll, Cond.selects RX4 yX4_mayGoAll yX4_mayGoAll, Cond.code yX4_mayGoAll cX4_mayGoAll 3 (some .int)]
def wsX4_end_r2 : List Cond := [Cond.methodLink RX4 120 yX4_mayGo, Cond.instanceMethod yX4_mayGo, Cond.selects RX4 yX4_mayGo yX4_mayGo, Cond.code yX4_mayGo cX4_mayGo 2 (some .boolean), Cond.fieldLink RX4 26 "RenameRowsModel" "first" "[I", Cond.fieldLink RX4 29 "RenameRowsModel" "second" "[I", Cond.methodLink RX4 79 yX4_isReady, Cond.instanceMethod yX4_isReady, Cond.selects RX4 yX4_isReady yX4_isReady, Cond.code yX4_isReady cX4_isReady 2 (some .boolean)]
def wsX4_end : List Cond := .code yX4_end cX4_end 4 (some .int) :: ((wsX4_end_r1 ++ wsX4_end_r2) ++ wsX40)
def wsX4_shift : List Cond := .code yX4_shift cX4_shift 2 none :: ([.fieldLink RX4 86 "RenameRowsModel" "rows" "I", .fieldLink RX4 83 "RenameRowsModel" "head" "I", .fieldLink RX4 70 "RenameRowsModel" "places" "I", .fieldLink RX4 26 "RenameRowsModel" "first" "[I", .fieldLink RX4 29 "RenameRowsModel" "second" "[I", .fieldLink RX4 32 "RenameRowsModel" "gave" "[I", .fieldLink RX4 35 "RenameRowsModel" "knew" "[I", .fieldLink RX4 38 "RenameRowsModel" "register" "[I", .fieldLink RX4 41 "RenameRowsModel" "ports" "[I", .fieldLink RX4 44 "RenameRowsModel" "state" "[I"] ++ wsX40)
def wsX4_bound : List Cond := .code yX4_bound cX4_bound 3 (some .int) :: ([.constant RX4 126 (2147483647), .fieldLink RX4 47 "RenameRowsModel" "marked" "[Z", .fieldLink RX4 50 "RenameRowsModel" "before" "[I"] ++ wsX40)
def wsX4_commit_r1 : List Cond := [Cond.fieldLink RX4 86 "RenameRowsModel" "rows" "I", Cond.fieldLink RX4 44 "RenameRowsModel" "state" "[I", Cond.fieldLink RX4 127 "RenameRowsModel" "done" "I", Cond.fieldLink RX4 38 "RenameRowsModel" "register" "[I", Cond.fieldLink RX4 13 "RenameRowsModel" "sure" "[I", Cond.fieldLink RX4 32 "RenameRowsModel" "gave" "[I", Cond.fieldLink RX4 35 "RenameRowsModel" "knew" "[I", Cond.methodLink RX4 96 yX4_throwing, Cond.instanceMethod yX4_throwing, Cond.selects RX4 yX4_throwing yX4_throwing, Cond.initialized RX4, Cond.code yX4_throwing cX4_throwing 4 (some .boolean), Cond.fieldLink RX4 76 "RenameRowsModel" "thrown" "I", Cond.methodLink RX4 130 yX4_bound, Cond.instanceMethod yX4_bound, Cond.selects RX4 yX4_bound yX4_bound, Cond.code yX4_bound cX4_bound 3 (some .int), Cond.constant RX4 126 (2147483647), Cond.fieldLink RX4 47 "RenameRowsModel" "marked" "[Z", Cond.fieldLink RX4 50 "RenameRowsModel" "before" "[I", Cond.methodLink RX4 133 yX4_giveBack, Cond.instanceMethod yX4_giveBack, Cond.selects RX4 yX4_giveBack yX4_giveBack, Cond.code yX4_giveBack cX4_giveBack 2 none]
def wsX4_commit_r2 : List Cond := [Cond.fieldLink RX4 16 "RenameRowsModel" "shares" "[I", Cond.fieldLink RX4 23 "RenameRowsModel" "queue" "[I", Cond.fieldLink RX4 73 "RenameRowsModel" "free" "I", Cond.methodLink RX4 137 yX4_shift, Cond.instanceMethod yX4_shift, Cond.selects RX4 yX4_shift yX4_shift, Cond.code yX4_shift cX4_shift 2 none, Cond.fieldLink RX4 83 "RenameRowsModel" "head" "I", Cond.fieldLink RX4 70 "RenameRowsModel" "places" "I", Cond.fieldLink RX4 26 "RenameRowsModel" "first" "[I", Cond.fieldLink RX4 29 "RenameRowsModel" "second" "[I", Cond.fieldLink RX4 41 "RenameRowsModel" "ports" "[I"]
def wsX4_commit : List Cond := .code yX4_commit cX4_commit 3 (some .int) :: ((wsX4_commit_r1 ++ wsX4_commit_r2) ++ wsX40)
def wsX4_branch : List Cond := .code yX4_branch cX4_branch 2 (some .int) :: ([.fieldLink RX4 76 "RenameRowsModel" "thrown" "I", .fieldLink RX4 47 "RenameRowsModel" "marked" "[Z", .fieldLink RX4 140 "RenameRowsModel" "marks" "I", .fieldLink RX4 50 "RenameRowsModel" "before" "[I", .fieldLink RX4 127 "RenameRowsModel" "done" "I", .fieldLink RX4 86 "RenameRowsModel" "rows" "I", .fieldLink RX4 53 "RenameRowsModel" "age" "[I", .fieldLink RX4 143 "RenameRowsModel" "branches" "I"] ++ wsX40)
def wsX4_isMark : List Cond := .code yX4_isMark cX4_isMark 2 (some .boolean) :: ([])
def wsX4_drop : List Cond := .code yX4_drop cX4_drop 2 none :: ([.fieldLink RX4 47 "RenameRowsModel" "marked" "[Z", .fieldLink RX4 140 "RenameRowsModel" "marks" "I"] ++ wsX40)
def wsX4_right : List Cond := .code yX4_right cX4_right 2 (some .int) :: ([.fieldLink RX4 47 "RenameRowsModel" "marked" "[Z", .fieldLink RX4 140 "RenameRowsModel" "marks" "I", .methodLink RX4 146 yX4_isMark, .instanceMethod yX4_isMark, .selects RX4 yX4_isMark yX4_isMark, .initialized RX4, .code yX4_isMark cX4_isMark 2 (some .boolean), .methodLink RX4 96 yX4_throwing, .instanceMethod yX4_throwing, .selects RX4 yX4_throwing yX4_throwing, .code yX4_throwing cX4_throwing 4 (some .boolean), .fieldLink RX4 76 "RenameRowsModel" "thrown" "I", .methodLink RX4 149 yX4_drop, .instanceMethod yX4_drop, .selects RX4 yX4_drop yX4_drop, .code yX4_drop cX4_drop 2 none] ++ wsX40)
def wsX4_wrong_r1 : List Cond := [Cond.fieldLink RX4 47 "RenameRowsModel" "marked" "[Z", Cond.fieldLink RX4 127 "RenameRowsModel" "done" "I", Cond.fieldLink RX4 86 "RenameRowsModel" "rows" "I", Cond.fieldLink RX4 50 "RenameRowsModel" "before" "[I", Cond.fieldLink RX4 38 "RenameRowsModel" "register" "[I", Cond.fieldLink RX4 7 "RenameRowsModel" "name" "[I", Cond.fieldLink RX4 35 "RenameRowsModel" "knew" "[I", Cond.fieldLink RX4 32 "RenameRowsModel" "gave" "[I", Cond.fieldLink RX4 152 "RenameRowsModel" "back" "I", Cond.fieldLink RX4 53 "RenameRowsModel" "age" "[I", Cond.methodLink RX4 146 yX4_isMark, Cond.instanceMethod yX4_isMark, Cond.selects RX4 yX4_isMark yX4_isMark, Cond.initialized RX4, Cond.code yX4_isMark cX4_isMark 2 (some .boolean), Cond.methodLink RX4 96 yX4_throwing, Cond.instanceMethod yX4_throwing, Cond.selects RX4 yX4_throwing yX4_throwing, Cond.code yX4_throwing cX4_throwing 4 (some .boolean), Cond.fieldLink RX4 76 "RenameRowsModel" "thrown" "I", Cond.methodLink RX4 133 yX4_giveBack, Cond.instanceMethod yX4_giveBack, Cond.selects RX4 yX4_giveBack yX4_giveBack, Cond.code yX4_giveBack cX4_giveBack 2 none]
def wsX4_wrong_r2 : List Cond := [Cond.fieldLink RX4 16 "RenameRowsModel" "shares" "[I", Cond.fieldLink RX4 23 "RenameRowsModel" "queue" "[I", Cond.fieldLink RX4 73 "RenameRowsModel" "free" "I", Cond.methodLink RX4 149 yX4_drop, Cond.instanceMethod yX4_drop, Cond.selects RX4 yX4_drop yX4_drop, Cond.code yX4_drop cX4_drop 2 none, Cond.fieldLink RX4 140 "RenameRowsModel" "marks" "I"]
def wsX4_wrong : List Cond := .code yX4_wrong cX4_wrong 4 (some .int) :: ((wsX4_wrong_r1 ++ wsX4_wrong_r2) ++ wsX40)
def wsX4_name : List Cond := .code yX4_name cX4_name 2 (some .int) :: ([.fieldLink RX4 7 "RenameRowsModel" "name" "[I", .methodLink RX4 93 yX4_isRegister, .instanceMethod yX4_isRegister, .selects RX4 yX4_isRegister yX4_isRegister, .initialized RX4, .code yX4_isRegister cX4_isRegister 2 (some .boolean), .fieldLink RX4 63 "RenameRowsModel" "registers" "I", .methodLink RX4 96 yX4_throwing, .instanceMethod yX4_throwing, .selects RX4 yX4_throwing yX4_throwing, .code yX4_throwing cX4_throwing 4 (some .boolean), .fieldLink RX4 76 "RenameRowsModel" "thrown" "I"] ++ wsX40)
def wsX4_sure : List Cond := .code yX4_sure cX4_sure 2 (some .int) :: ([.fieldLink RX4 13 "RenameRowsModel" "sure" "[I", .methodLink RX4 93 yX4_isRegister, .instanceMethod yX4_isRegister, .selects RX4 yX4_isRegister yX4_isRegister, .initialized RX4, .code yX4_isRegister cX4_isRegister 2 (some .boolean), .fieldLink RX4 63 "RenameRowsModel" "registers" "I", .methodLink RX4 96 yX4_throwing, .instanceMethod yX4_throwing, .selects RX4 yX4_throwing yX4_throwing, .code yX4_throwing cX4_throwing 4 (some .boolean), .fieldLink RX4 76 "RenameRowsModel" "thrown" "I"] ++ wsX40)
def wsX4_shares : List Cond := .code yX4_shares cX4_shares 2 (some .int) :: ([.fieldLink RX4 67 "RenameRowsModel" "names" "I", .fieldLink RX4 16 "RenameRowsModel" "shares" "[I", .methodLink RX4 96 yX4_throwing, .instanceMethod yX4_throwing, .selects RX4 yX4_throwing yX4_throwing, .initialized RX4, .code yX4_throwing cX4_throwing 4 (some .boolean), .fieldLink RX4 76 "RenameRowsModel" "thrown" "I"] ++ wsX40)
def wsX4_queue : List Cond := .code yX4_queue cX4_queue 2 (some .int) :: ([.fieldLink RX4 73 "RenameRowsModel" "free" "I", .fieldLink RX4 23 "RenameRowsModel" "queue" "[I", .methodLink RX4 96 yX4_throwing, .instanceMethod yX4_throwing, .selects RX4 yX4_throwing yX4_throwing, .initialized RX4, .code yX4_throwing cX4_throwing 4 (some .boolean), .fieldLink RX4 76 "RenameRowsModel" "thrown" "I"] ++ wsX40)
def wsX4_row : List Cond := .code yX4_row cX4_row 4 (some .int) :: ([.fieldLink RX4 26 "RenameRowsModel" "first" "[I", .fieldLink RX4 29 "RenameRowsModel" "second" "[I", .fieldLink RX4 32 "RenameRowsModel" "gave" "[I", .fieldLink RX4 35 "RenameRowsModel" "knew" "[I", .fieldLink RX4 38 "RenameRowsModel" "register" "[I", .fieldLink RX4 41 "RenameRowsModel" "ports" "[I", .fieldLink RX4 44 "RenameRowsModel" "state" "[I", .methodLink RX4 114 yX4_isPlace, .instanceMethod yX4_isPlace, .selects RX4 yX4_isPlace yX4_isPlace, .initialized RX4, .code yX4_isPlace cX4_isPlace 2 (some .boolean), .fieldLink RX4 70 "RenameRowsModel" "places" "I", .methodLink RX4 117 yX4_at, .instanceMethod yX4_at, .selects RX4 yX4_at yX4_at, .code yX4_at cX4_at 3 (some .int), .fieldLink RX4 83 "RenameRowsModel" "head" "I", .fieldLink RX4 86 "RenameRowsModel" "rows" "I", .methodLink RX4 96 yX4_throwing, .instanceMethod yX4_throwing, .selects RX4 yX4_throwing yX4_throwing, .code yX4_throwing cX4_throwing 4 (some .boolean), .fieldLink RX4 76 "RenameRowsModel" "thrown" "I"] ++ wsX40)
def wsX4_count : List Cond := .code yX4_count cX4_count 2 (some .int) :: ([.fieldLink RX4 76 "RenameRowsModel" "thrown" "I", .fieldLink RX4 63 "RenameRowsModel" "registers" "I", .fieldLink RX4 67 "RenameRowsModel" "names" "I", .fieldLink RX4 70 "RenameRowsModel" "places" "I", .fieldLink RX4 86 "RenameRowsModel" "rows" "I", .fieldLink RX4 73 "RenameRowsModel" "free" "I", .fieldLink RX4 140 "RenameRowsModel" "marks" "I", .fieldLink RX4 127 "RenameRowsModel" "done" "I", .fieldLink RX4 152 "RenameRowsModel" "back" "I", .fieldLink RX4 83 "RenameRowsModel" "head" "I", .fieldLink RX4 100 "RenameRowsModel" "noPlace" "I", .fieldLink RX4 103 "RenameRowsModel" "noName" "I"] ++ wsX40)
def wsJx00060_init_a7421 : List Cond := .code yJx00060_init_a7421 cJx00060_init_a7421 2 none :: ([])
def wsJ9_min_7cf53 : List Cond := .code yJ9_min_7cf53 cJ9_min_7cf53 2 (some .int) :: ([])
def wsL_cell : List Cond := .code yL_cell cL_cell 2 (some .int) :: ([])
def wsL_dispatch_r1 : List Cond := [Cond.methodLink RL 7 yX3_dispatch, Cond.instanceMethod yX3_dispatch, Cond.selects RX3 yX3_dispatch yX3_dispatch, Cond.initialized RX3, Cond.code yX3_dispatch cX3_dispatch 7 (some .int), Cond.classLink RX3 52 RJx00060, Cond.instantiable RJx00060 6, Cond.initialized RJx00060, Cond.fieldLink RX3 27 "RenameRows" "ring" "LRenameRows$Ring;", Cond.fieldLink RX3 63 "RenameRows" "wantsOfPlace" "I", Cond.fieldLink RX3 18 "RenameRows" "names" "LRenameRows$Names;", Cond.fieldLink RX3 71 "RenameRows" "wantsOfName" "I", Cond.methodLink RX3 48 yX3_isRegisterOrNone, Cond.instanceMethod yX3_isRegisterOrNone, Cond.selects RX3 yX3_isRegisterOrNone yX3_isRegisterOrNone, Cond.code yX3_isRegisterOrNone cX3_isRegisterOrNone 2 (some .boolean), Cond.methodLink RX3 85 yX3_isRegister, Cond.instanceMethod yX3_isRegister, Cond.selects RX3 yX3_isRegister yX3_isRegister, Cond.code yX3_isRegister cX3_isRegister 2 (some .boolean), Cond.fieldLink RX3 38 "RenameRows" "nameNow" "[I", Cond.methodLink RX3 59 yX2_isFull, Cond.instanceMethod yX2_isFull, Cond.selects RX2 yX2_isFull yX2_isFull]
def wsL_dispatch_r2 : List Cond := [Cond.initialized RX2, Cond.code yX2_isFull cX2_isFull 1 (some .boolean), Cond.fieldLink RX2 33 "RenameRows$Ring" "rows" "I", Cond.fieldLink RX2 30 "RenameRows$Ring" "state" "[I", Cond.methodLink RX3 67 yX1_freeCount, Cond.instanceMethod yX1_freeCount, Cond.selects RX1 yX1_freeCount yX1_freeCount, Cond.initialized RX1, Cond.code yX1_freeCount cX1_freeCount 1 (some .int), Cond.fieldLink RX1 22 "RenameRows$Names" "free" "I", Cond.methodLink RX3 74 yX3_currentName, Cond.instanceMethod yX3_currentName, Cond.selects RX3 yX3_currentName yX3_currentName, Cond.code yX3_currentName cX3_currentName 2 (some .int), Cond.methodLink RX3 78 yX1_takeFirstFree, Cond.instanceMethod yX1_takeFirstFree, Cond.selects RX1 yX1_takeFirstFree yX1_takeFirstFree, Cond.code yX1_takeFirstFree cX1_takeFirstFree 2 (some .int), Cond.fieldLink RX1 19 "RenameRows$Names" "queued" "[I", Cond.fieldLink RX1 34 "RenameRows$Names" "first" "I", Cond.fieldLink RX1 9 "RenameRows$Names" "held" "[I", Cond.fieldLink RX1 15 "RenameRows$Names" "ready" "[Z", Cond.methodLink RX1 30 yX1_slotOf, Cond.instanceMethod yX1_slotOf]
def wsL_dispatch_r3 : List Cond := [Cond.selects RX1 yX1_slotOf yX1_slotOf, Cond.code yX1_slotOf cX1_slotOf 3 (some .int), Cond.methodLink RX3 81 yX3_appendRow, Cond.instanceMethod yX3_appendRow, Cond.selects RX3 yX3_appendRow yX3_appendRow, Cond.code yX3_appendRow cX3_appendRow 7 (some .int), Cond.methodLink RX3 232 yX2_append, Cond.instanceMethod yX2_append, Cond.selects RX2 yX2_append yX2_append, Cond.code yX2_append cX2_append 8 (some .int), Cond.fieldLink RX2 9 "RenameRows$Ring" "readA" "[I", Cond.fieldLink RX2 15 "RenameRows$Ring" "readB" "[I", Cond.fieldLink RX2 18 "RenameRows$Ring" "given" "[I", Cond.fieldLink RX2 21 "RenameRows$Ring" "known" "[I", Cond.fieldLink RX2 24 "RenameRows$Ring" "register" "[I", Cond.fieldLink RX2 27 "RenameRows$Ring" "port" "[I", Cond.methodLink RX2 57 yX2_isFull, Cond.methodLink RX2 54 yX2_placeOfAge, Cond.instanceMethod yX2_placeOfAge, Cond.selects RX2 yX2_placeOfAge yX2_placeOfAge, Cond.code yX2_placeOfAge cX2_placeOfAge 3 (some .int), Cond.fieldLink RX2 51 "RenameRows$Ring" "oldest" "I"]
def wsL_dispatch : List Cond := .codeWith yL_dispatch cL_dispatch 6 (some .int) [(0, 12, 15, 13)] :: ((wsL_dispatch_r1 ++ (wsL_dispatch_r2 ++ wsL_dispatch_r3)) ++ wsJx000600 ++ wsX30 ++ wsX20 ++ wsX10)
def wsL_move_r1 : List Cond := [Cond.methodLink RL 15 yX3_move, Cond.instanceMethod yX3_move, Cond.selects RX3 yX3_move yX3_move, Cond.initialized RX3, Cond.code yX3_move cX3_move 4 (some .int), Cond.classLink RX3 52 RJx00060, Cond.instantiable RJx00060 6, Cond.initialized RJx00060, Cond.fieldLink RX3 27 "RenameRows" "ring" "LRenameRows$Ring;", Cond.fieldLink RX3 63 "RenameRows" "wantsOfPlace" "I", Cond.fieldLink RX3 18 "RenameRows" "names" "LRenameRows$Names;", Cond.methodLink RX3 85 yX3_isRegister, Cond.instanceMethod yX3_isRegister, Cond.selects RX3 yX3_isRegister yX3_isRegister, Cond.code yX3_isRegister cX3_isRegister 2 (some .boolean), Cond.fieldLink RX3 38 "RenameRows" "nameNow" "[I", Cond.methodLink RX3 59 yX2_isFull, Cond.instanceMethod yX2_isFull, Cond.selects RX2 yX2_isFull yX2_isFull, Cond.initialized RX2, Cond.code yX2_isFull cX2_isFull 1 (some .boolean), Cond.fieldLink RX2 33 "RenameRows$Ring" "rows" "I", Cond.fieldLink RX2 30 "RenameRows$Ring" "state" "[I", Cond.methodLink RX3 74 yX3_currentName]
def wsL_move_r2 : List Cond := [Cond.instanceMethod yX3_currentName, Cond.selects RX3 yX3_currentName yX3_currentName, Cond.code yX3_currentName cX3_currentName 2 (some .int), Cond.methodLink RX3 88 yX1_addShare, Cond.instanceMethod yX1_addShare, Cond.selects RX1 yX1_addShare yX1_addShare, Cond.initialized RX1, Cond.code yX1_addShare cX1_addShare 2 none, Cond.fieldLink RX1 9 "RenameRows$Names" "held" "[I", Cond.methodLink RX1 26 yX1_isName, Cond.instanceMethod yX1_isName, Cond.selects RX1 yX1_isName yX1_isName, Cond.code yX1_isName cX1_isName 2 (some .boolean), Cond.methodLink RX3 81 yX3_appendRow, Cond.instanceMethod yX3_appendRow, Cond.selects RX3 yX3_appendRow yX3_appendRow, Cond.code yX3_appendRow cX3_appendRow 7 (some .int), Cond.methodLink RX3 232 yX2_append, Cond.instanceMethod yX2_append, Cond.selects RX2 yX2_append yX2_append, Cond.code yX2_append cX2_append 8 (some .int), Cond.fieldLink RX2 9 "RenameRows$Ring" "readA" "[I", Cond.fieldLink RX2 15 "RenameRows$Ring" "readB" "[I", Cond.fieldLink RX2 18 "RenameRows$Ring" "given" "[I"]
def wsL_move_r3 : List Cond := [Cond.fieldLink RX2 21 "RenameRows$Ring" "known" "[I", Cond.fieldLink RX2 24 "RenameRows$Ring" "register" "[I", Cond.fieldLink RX2 27 "RenameRows$Ring" "port" "[I", Cond.methodLink RX2 57 yX2_isFull, Cond.methodLink RX2 54 yX2_placeOfAge, Cond.instanceMethod yX2_placeOfAge, Cond.selects RX2 yX2_placeOfAge yX2_placeOfAge, Cond.code yX2_placeOfAge cX2_placeOfAge 3 (some .int), Cond.fieldLink RX2 51 "RenameRows$Ring" "oldest" "I"]
def wsL_move : List Cond := .codeWith yL_move cL_move 5 (some .int) [(0, 10, 13, 13)] :: ((wsL_move_r1 ++ (wsL_move_r2 ++ wsL_move_r3)) ++ wsJx000600 ++ wsX30 ++ wsX20 ++ wsX10)
def wsL_port_r1 : List Cond := [Cond.classLink RL 13 "java/lang/ArrayIndexOutOfBoundsException", Cond.classLink RL 22 "java/lang/IllegalStateException", Cond.classLink RL 24 "java/lang/IllegalArgumentException", Cond.methodLink RL 19 yX3_port, Cond.instanceMethod yX3_port, Cond.selects RX3 yX3_port yX3_port, Cond.initialized RX3, Cond.code yX3_port cX3_port 4 (some .int), Cond.classLink RX3 100 "java/lang/IllegalStateException", Cond.initialized "java/lang/IllegalStateException", Cond.classLink RX3 105 "java/lang/IllegalArgumentException", Cond.initialized "java/lang/IllegalArgumentException", Cond.fieldLink RX3 27 "RenameRows" "ring" "LRenameRows$Ring;", Cond.classLink RX3 52 RJx00060, Cond.instantiable RJx00060 6, Cond.initialized RJx00060, Cond.methodLink RX3 91 yX2_isPlace, Cond.instanceMethod yX2_isPlace, Cond.selects RX2 yX2_isPlace yX2_isPlace, Cond.initialized RX2, Cond.code yX2_isPlace cX2_isPlace 2 (some .boolean), Cond.fieldLink RX2 30 "RenameRows$Ring" "state" "[I", Cond.methodLink RX3 96 yX2_isInState, Cond.instanceMethod yX2_isInState]
def wsL_port_r2 : List Cond := [Cond.selects RX2 yX2_isInState yX2_isInState, Cond.code yX2_isInState cX2_isInState 3 (some .boolean), Cond.methodLink RX2 48 yX2_holdsRow, Cond.instanceMethod yX2_holdsRow, Cond.selects RX2 yX2_holdsRow yX2_holdsRow, Cond.code yX2_holdsRow cX2_holdsRow 2 (some .boolean), Cond.fieldLink RX2 33 "RenameRows$Ring" "rows" "I", Cond.methodLink RX2 40 yX2_isPlace, Cond.methodLink RX2 44 yX2_ageOf, Cond.instanceMethod yX2_ageOf, Cond.selects RX2 yX2_ageOf yX2_ageOf, Cond.code yX2_ageOf cX2_ageOf 2 (some .int), Cond.fieldLink RX2 51 "RenameRows$Ring" "oldest" "I", Cond.methodLink RX3 110 yX2_portAt, Cond.instanceMethod yX2_portAt, Cond.selects RX2 yX2_portAt yX2_portAt, Cond.code yX2_portAt cX2_portAt 2 (some .int), Cond.fieldLink RX2 27 "RenameRows$Ring" "port" "[I", Cond.methodLink RX3 113 yX2_setPort, Cond.instanceMethod yX2_setPort, Cond.selects RX2 yX2_setPort yX2_setPort, Cond.code yX2_setPort cX2_setPort 3 none]
def wsL_port : List Cond := .codeWith yL_port cL_port 5 (some .int) [(0, 10, 13, 13), (0, 10, 17, 22), (0, 10, 21, 24)] :: ((wsL_port_r1 ++ wsL_port_r2) ++ wsX30 ++ wsJx000600 ++ wsX20 ++ (vx_atS RX3 104 "java/lang/IllegalStateException" ["java/lang/RuntimeException", "java/lang/Exception"]).filter goodWord ++ (vx_atS RX3 109 "java/lang/IllegalArgumentException" ["java/lang/RuntimeException", "java/lang/Exception"]).filter goodWord)
def wsL_select_r1 : List Cond := [Cond.classLink RL 24 "java/lang/IllegalArgumentException", Cond.methodLink RL 26 yX3_select, Cond.instanceMethod yX3_select, Cond.selects RX3 yX3_select yX3_select, Cond.initialized RX3, Cond.code yX3_select cX3_select 5 (some .int), Cond.classLink RX3 105 "java/lang/IllegalArgumentException", Cond.initialized "java/lang/IllegalArgumentException", Cond.fieldLink RX3 45 "RenameRows" "wentTo" "[I", Cond.fieldLink RX3 27 "RenameRows" "ring" "LRenameRows$Ring;", Cond.methodLink RX3 118 yX3_oldestAbleFor, Cond.instanceMethod yX3_oldestAbleFor, Cond.selects RX3 yX3_oldestAbleFor yX3_oldestAbleFor, Cond.code yX3_oldestAbleFor cX3_oldestAbleFor 4 (some .int), Cond.methodLink RX3 226 yX2_rowCount, Cond.instanceMethod yX2_rowCount, Cond.selects RX2 yX2_rowCount yX2_rowCount, Cond.initialized RX2, Cond.code yX2_rowCount cX2_rowCount 1 (some .int), Cond.fieldLink RX2 33 "RenameRows$Ring" "rows" "I", Cond.methodLink RX3 239 yX2_placeOfAge, Cond.instanceMethod yX2_placeOfAge, Cond.selects RX2 yX2_placeOfAge yX2_placeOfAge, Cond.code yX2_placeOfAge cX2_placeOfAge 3 (some .int)]
def wsL_select_r2 : List Cond := [Cond.fieldLink RX2 51 "RenameRows$Ring" "oldest" "I", Cond.fieldLink RX2 30 "RenameRows$Ring" "state" "[I", Cond.methodLink RX3 110 yX2_portAt, Cond.instanceMethod yX2_portAt, Cond.selects RX2 yX2_portAt yX2_portAt, Cond.code yX2_portAt cX2_portAt 2 (some .int), Cond.fieldLink RX2 27 "RenameRows$Ring" "port" "[I", Cond.methodLink RX2 40 yX2_isPlace, Cond.instanceMethod yX2_isPlace, Cond.selects RX2 yX2_isPlace yX2_isPlace, Cond.code yX2_isPlace cX2_isPlace 2 (some .boolean), Cond.methodLink RX3 242 yX3_isAble, Cond.instanceMethod yX3_isAble, Cond.selects RX3 yX3_isAble yX3_isAble, Cond.code yX3_isAble cX3_isAble 2 (some .boolean), Cond.fieldLink RX3 18 "RenameRows" "names" "LRenameRows$Names;", Cond.methodLink RX3 96 yX2_isInState, Cond.instanceMethod yX2_isInState, Cond.selects RX2 yX2_isInState yX2_isInState, Cond.code yX2_isInState cX2_isInState 3 (some .boolean), Cond.methodLink RX2 48 yX2_holdsRow, Cond.instanceMethod yX2_holdsRow, Cond.selects RX2 yX2_holdsRow yX2_holdsRow, Cond.code yX2_holdsRow cX2_holdsRow 2 (some .boolean)]
def wsL_select_r3 : List Cond := [Cond.methodLink RX2 44 yX2_ageOf, Cond.instanceMethod yX2_ageOf, Cond.selects RX2 yX2_ageOf yX2_ageOf, Cond.code yX2_ageOf cX2_ageOf 2 (some .int), Cond.methodLink RX3 203 yX2_readAAt, Cond.instanceMethod yX2_readAAt, Cond.selects RX2 yX2_readAAt yX2_readAAt, Cond.code yX2_readAAt cX2_readAAt 2 (some .int), Cond.fieldLink RX2 9 "RenameRows$Ring" "readA" "[I", Cond.methodLink RX3 236 yX1_isReadyOrNone, Cond.instanceMethod yX1_isReadyOrNone, Cond.selects RX1 yX1_isReadyOrNone yX1_isReadyOrNone, Cond.initialized RX1, Cond.code yX1_isReadyOrNone cX1_isReadyOrNone 2 (some .boolean), Cond.fieldLink RX1 15 "RenameRows$Names" "ready" "[Z", Cond.methodLink RX1 26 yX1_isName, Cond.instanceMethod yX1_isName, Cond.selects RX1 yX1_isName yX1_isName, Cond.code yX1_isName cX1_isName 2 (some .boolean), Cond.fieldLink RX1 9 "RenameRows$Names" "held" "[I", Cond.methodLink RX3 206 yX2_readBAt, Cond.instanceMethod yX2_readBAt, Cond.selects RX2 yX2_readBAt yX2_readBAt, Cond.code yX2_readBAt cX2_readBAt 2 (some .int)]
def wsL_select_r4 : List Cond := [Cond.fieldLink RX2 15 "RenameRows$Ring" "readB" "[I", Cond.methodLink RX3 121 yX2_setState, Cond.instanceMethod yX2_setState, Cond.selects RX2 yX2_setState yX2_setState, Cond.code yX2_setState cX2_setState 3 none]
def wsL_select : List Cond := .codeWith yL_select cL_select 4 (some .int) [(0, 9, 12, 24)] :: ((wsL_select_r1 ++ (wsL_select_r2 ++ (wsL_select_r3 ++ wsL_select_r4))) ++ wsX30 ++ wsX20 ++ wsX10 ++ (vx_atS RX3 109 "java/lang/IllegalArgumentException" ["java/lang/RuntimeException", "java/lang/Exception"]).filter goodWord)
def wsL_selected : List Cond := .codeWith yL_selected cL_selected 4 (some .int) [(0, 9, 12, 13)] :: ([.methodLink RL 30 yX3_selected, .instanceMethod yX3_selected, .selects RX3 yX3_selected yX3_selected, .initialized RX3, .code yX3_selected cX3_selected 2 (some .int), .classLink RX3 52 RJx00060, .instantiable RJx00060 6, .initialized RJx00060, .fieldLink RX3 45 "RenameRows" "wentTo" "[I"] ++ wsJx000600 ++ wsX30)
def wsL_end_r1 : List Cond := [Cond.classLink RL 13 "java/lang/ArrayIndexOutOfBoundsException", Cond.classLink RL 22 "java/lang/IllegalStateException", Cond.methodLink RL 33 yX3_end, Cond.instanceMethod yX3_end, Cond.selects RX3 yX3_end yX3_end, Cond.initialized RX3, Cond.code yX3_end cX3_end 3 (some .int), Cond.classLink RX3 100 "java/lang/IllegalStateException", Cond.initialized "java/lang/IllegalStateException", Cond.fieldLink RX3 27 "RenameRows" "ring" "LRenameRows$Ring;", Cond.classLink RX3 52 RJx00060, Cond.instantiable RJx00060 6, Cond.initialized RJx00060, Cond.fieldLink RX3 18 "RenameRows" "names" "LRenameRows$Names;", Cond.methodLink RX3 91 yX2_isPlace, Cond.instanceMethod yX2_isPlace, Cond.selects RX2 yX2_isPlace yX2_isPlace, Cond.initialized RX2, Cond.code yX2_isPlace cX2_isPlace 2 (some .boolean), Cond.fieldLink RX2 30 "RenameRows$Ring" "state" "[I", Cond.methodLink RX3 96 yX2_isInState, Cond.instanceMethod yX2_isInState, Cond.selects RX2 yX2_isInState yX2_isInState, Cond.code yX2_isInState cX2_isInState 3 (some .boolean)]
def wsL_end_r2 : List Cond := [Cond.methodLink RX2 48 yX2_holdsRow, Cond.instanceMethod yX2_holdsRow, Cond.selects RX2 yX2_holdsRow yX2_holdsRow, Cond.code yX2_holdsRow cX2_holdsRow 2 (some .boolean), Cond.fieldLink RX2 33 "RenameRows$Ring" "rows" "I", Cond.methodLink RX2 40 yX2_isPlace, Cond.methodLink RX2 44 yX2_ageOf, Cond.instanceMethod yX2_ageOf, Cond.selects RX2 yX2_ageOf yX2_ageOf, Cond.code yX2_ageOf cX2_ageOf 2 (some .int), Cond.fieldLink RX2 51 "RenameRows$Ring" "oldest" "I", Cond.methodLink RX3 121 yX2_setState, Cond.instanceMethod yX2_setState, Cond.selects RX2 yX2_setState yX2_setState, Cond.code yX2_setState cX2_setState 3 none, Cond.methodLink RX3 126 yX3_countAble, Cond.instanceMethod yX3_countAble, Cond.selects RX3 yX3_countAble yX3_countAble, Cond.code yX3_countAble cX3_countAble 3 (some .int), Cond.methodLink RX3 226 yX2_rowCount, Cond.instanceMethod yX2_rowCount, Cond.selects RX2 yX2_rowCount yX2_rowCount, Cond.code yX2_rowCount cX2_rowCount 1 (some .int), Cond.methodLink RX3 239 yX2_placeOfAge]
def wsL_end_r3 : List Cond := [Cond.instanceMethod yX2_placeOfAge, Cond.selects RX2 yX2_placeOfAge yX2_placeOfAge, Cond.code yX2_placeOfAge cX2_placeOfAge 3 (some .int), Cond.methodLink RX3 242 yX3_isAble, Cond.instanceMethod yX3_isAble, Cond.selects RX3 yX3_isAble yX3_isAble, Cond.code yX3_isAble cX3_isAble 2 (some .boolean), Cond.methodLink RX3 203 yX2_readAAt, Cond.instanceMethod yX2_readAAt, Cond.selects RX2 yX2_readAAt yX2_readAAt, Cond.code yX2_readAAt cX2_readAAt 2 (some .int), Cond.fieldLink RX2 9 "RenameRows$Ring" "readA" "[I", Cond.methodLink RX3 236 yX1_isReadyOrNone, Cond.instanceMethod yX1_isReadyOrNone, Cond.selects RX1 yX1_isReadyOrNone yX1_isReadyOrNone, Cond.initialized RX1, Cond.code yX1_isReadyOrNone cX1_isReadyOrNone 2 (some .boolean), Cond.fieldLink RX1 15 "RenameRows$Names" "ready" "[Z", Cond.methodLink RX1 26 yX1_isName, Cond.instanceMethod yX1_isName, Cond.selects RX1 yX1_isName yX1_isName, Cond.code yX1_isName cX1_isName 2 (some .boolean), Cond.fieldLink RX1 9 "RenameRows$Names" "held" "[I", Cond.methodLink RX3 206 yX2_readBAt]
def wsL_end_r4 : List Cond := [Cond.instanceMethod yX2_readBAt, Cond.selects RX2 yX2_readBAt yX2_readBAt, Cond.code yX2_readBAt cX2_readBAt 2 (some .int), Cond.fieldLink RX2 15 "RenameRows$Ring" "readB" "[I", Cond.methodLink RX3 129 yX2_givenAt, Cond.instanceMethod yX2_givenAt, Cond.selects RX2 yX2_givenAt yX2_givenAt, Cond.code yX2_givenAt cX2_givenAt 2 (some .int), Cond.fieldLink RX2 18 "RenameRows$Ring" "given" "[I", Cond.methodLink RX3 132 yX1_makeReady, Cond.instanceMethod yX1_makeReady, Cond.selects RX1 yX1_makeReady yX1_makeReady, Cond.code yX1_makeReady cX1_makeReady 2 none]
def wsL_end : List Cond := .codeWith yL_end cL_end 4 (some .int) [(0, 9, 12, 13), (0, 9, 15, 22)] :: ((wsL_end_r1 ++ (wsL_end_r2 ++ (wsL_end_r3 ++ wsL_end_r4))) ++ wsX30 ++ wsJx000600 ++ wsX20 ++ wsX10 ++ (vx_atS RX3 104 "java/lang/IllegalStateException" ["java/lang/RuntimeException", "java/lang/Exception"]).filter goodWord)
def wsL_commit_r1 : List Cond := [Cond.classLink RL 24 "java/lang/IllegalArgumentException", Cond.methodLink RL 36 yX3_commit, Cond.instanceMethod yX3_commit, Cond.selects RX3 yX3_commit yX3_commit, Cond.initialized RX3, Cond.code yX3_commit cX3_commit 4 (some .int), Cond.classLink RX3 105 "java/lang/IllegalArgumentException", Cond.initialized "java/lang/IllegalArgumentException", Cond.methodLink RX3 140 Lib.Math.min.name, Cond.static Lib.Math.min.name, Cond.initialized "java/lang/Math", Cond.code Lib.Math.min.name Lib.Math.min.code 2 (some .int), Cond.fieldLink RX3 27 "RenameRows" "ring" "LRenameRows$Ring;", Cond.methodLink RX3 137 yX3_rowsBeforeOldestMark, Cond.instanceMethod yX3_rowsBeforeOldestMark, Cond.selects RX3 yX3_rowsBeforeOldestMark yX3_rowsBeforeOldestMark, Cond.code yX3_rowsBeforeOldestMark cX3_rowsBeforeOldestMark 2 (some .int), Cond.fieldLink RX3 34 "RenameRows" "marks" "LRenameRows$Marks;", Cond.methodLink RX3 245 yX0_oldest, Cond.instanceMethod yX0_oldest, Cond.selects RX0 yX0_oldest yX0_oldest, Cond.initialized RX0, Cond.code yX0_oldest cX0_oldest 1 (some .int), Cond.fieldLink RX0 22 "RenameRows$Marks" "taken" "I"]
def wsL_commit_r2 : List Cond := [Cond.fieldLink RX0 15 "RenameRows$Marks" "byTurn" "[I", Cond.methodLink RX3 226 yX2_rowCount, Cond.instanceMethod yX2_rowCount, Cond.selects RX2 yX2_rowCount yX2_rowCount, Cond.initialized RX2, Cond.code yX2_rowCount cX2_rowCount 1 (some .int), Cond.fieldLink RX2 33 "RenameRows$Ring" "rows" "I", Cond.methodLink RX3 173 yX0_rowsBefore, Cond.instanceMethod yX0_rowsBefore, Cond.selects RX0 yX0_rowsBefore yX0_rowsBefore, Cond.code yX0_rowsBefore cX0_rowsBefore 2 (some .int), Cond.fieldLink RX0 9 "RenameRows$Marks" "before" "[I", Cond.methodLink RX0 26 yX0_isMark, Cond.instanceMethod yX0_isMark, Cond.selects RX0 yX0_isMark yX0_isMark, Cond.code yX0_isMark cX0_isMark 2 (some .boolean), Cond.methodLink RX3 229 yX2_doneCount, Cond.instanceMethod yX2_doneCount, Cond.selects RX2 yX2_doneCount yX2_doneCount, Cond.code yX2_doneCount cX2_doneCount 1 (some .int), Cond.fieldLink RX2 37 "RenameRows$Ring" "done" "I", Cond.methodLink RX3 145 yX2_oldestPlace, Cond.instanceMethod yX2_oldestPlace, Cond.selects RX2 yX2_oldestPlace yX2_oldestPlace]
def wsL_commit_r3 : List Cond := [Cond.code yX2_oldestPlace cX2_oldestPlace 1 (some .int), Cond.fieldLink RX2 51 "RenameRows$Ring" "oldest" "I", Cond.methodLink RX3 96 yX2_isInState, Cond.instanceMethod yX2_isInState, Cond.selects RX2 yX2_isInState yX2_isInState, Cond.code yX2_isInState cX2_isInState 3 (some .boolean), Cond.fieldLink RX2 30 "RenameRows$Ring" "state" "[I", Cond.methodLink RX2 48 yX2_holdsRow, Cond.instanceMethod yX2_holdsRow, Cond.selects RX2 yX2_holdsRow yX2_holdsRow, Cond.code yX2_holdsRow cX2_holdsRow 2 (some .boolean), Cond.methodLink RX2 40 yX2_isPlace, Cond.instanceMethod yX2_isPlace, Cond.selects RX2 yX2_isPlace yX2_isPlace, Cond.code yX2_isPlace cX2_isPlace 2 (some .boolean), Cond.methodLink RX2 44 yX2_ageOf, Cond.instanceMethod yX2_ageOf, Cond.selects RX2 yX2_ageOf yX2_ageOf, Cond.code yX2_ageOf cX2_ageOf 2 (some .int), Cond.methodLink RX3 148 yX3_finishOldest, Cond.instanceMethod yX3_finishOldest, Cond.selects RX3 yX3_finishOldest yX3_finishOldest, Cond.code yX3_finishOldest cX3_finishOldest 3 none, Cond.fieldLink RX3 42 "RenameRows" "nameSure" "[I"]
def wsL_commit_r4 : List Cond := [Cond.fieldLink RX3 18 "RenameRows" "names" "LRenameRows$Names;", Cond.methodLink RX3 212 yX2_registerAt, Cond.instanceMethod yX2_registerAt, Cond.selects RX2 yX2_registerAt yX2_registerAt, Cond.code yX2_registerAt cX2_registerAt 2 (some .int), Cond.fieldLink RX2 24 "RenameRows$Ring" "register" "[I", Cond.methodLink RX3 85 yX3_isRegister, Cond.instanceMethod yX3_isRegister, Cond.selects RX3 yX3_isRegister yX3_isRegister, Cond.code yX3_isRegister cX3_isRegister 2 (some .boolean), Cond.fieldLink RX3 38 "RenameRows" "nameNow" "[I", Cond.methodLink RX3 129 yX2_givenAt, Cond.instanceMethod yX2_givenAt, Cond.selects RX2 yX2_givenAt yX2_givenAt, Cond.code yX2_givenAt cX2_givenAt 2 (some .int), Cond.fieldLink RX2 18 "RenameRows$Ring" "given" "[I", Cond.methodLink RX3 209 yX2_knownAt, Cond.instanceMethod yX2_knownAt, Cond.selects RX2 yX2_knownAt yX2_knownAt, Cond.code yX2_knownAt cX2_knownAt 2 (some .int), Cond.fieldLink RX2 21 "RenameRows$Ring" "known" "[I", Cond.methodLink RX3 248 yX1_giveBack, Cond.instanceMethod yX1_giveBack, Cond.selects RX1 yX1_giveBack yX1_giveBack]
def wsL_commit_r5 : List Cond := [Cond.initialized RX1, Cond.code yX1_giveBack cX1_giveBack 2 none, Cond.fieldLink RX1 9 "RenameRows$Names" "held" "[I", Cond.fieldLink RX1 19 "RenameRows$Names" "queued" "[I", Cond.fieldLink RX1 22 "RenameRows$Names" "free" "I", Cond.methodLink RX1 26 yX1_isName, Cond.instanceMethod yX1_isName, Cond.selects RX1 yX1_isName yX1_isName, Cond.code yX1_isName cX1_isName 2 (some .boolean), Cond.methodLink RX1 30 yX1_slotOf, Cond.instanceMethod yX1_slotOf, Cond.selects RX1 yX1_slotOf yX1_slotOf, Cond.code yX1_slotOf cX1_slotOf 3 (some .int), Cond.fieldLink RX1 34 "RenameRows$Names" "first" "I", Cond.methodLink RX3 251 yX2_dropOldest, Cond.instanceMethod yX2_dropOldest, Cond.selects RX2 yX2_dropOldest yX2_dropOldest, Cond.code yX2_dropOldest cX2_dropOldest 1 none, Cond.methodLink RX2 54 yX2_placeOfAge, Cond.instanceMethod yX2_placeOfAge, Cond.selects RX2 yX2_placeOfAge yX2_placeOfAge, Cond.code yX2_placeOfAge cX2_placeOfAge 3 (some .int)]
def wsL_commit : List Cond := .codeWith yL_commit cL_commit 4 (some .int) [(0, 9, 12, 24)] :: ((wsL_commit_r1 ++ (wsL_commit_r2 ++ (wsL_commit_r3 ++ (wsL_commit_r4 ++ wsL_commit_r5)))) ++ wsX30 ++ wsX00 ++ wsX20 ++ wsX10 ++ (vx_atS RX3 109 "java/lang/IllegalArgumentException" ["java/lang/RuntimeException", "java/lang/Exception"]).filter goodWord)
def wsL_right_r1 : List Cond := [Cond.classLink RL 13 "java/lang/ArrayIndexOutOfBoundsException", Cond.classLink RL 22 "java/lang/IllegalStateException", Cond.methodLink RL 39 yX3_right, Cond.instanceMethod yX3_right, Cond.selects RX3 yX3_right yX3_right, Cond.initialized RX3, Cond.code yX3_right cX3_right 2 (some .int), Cond.classLink RX3 100 "java/lang/IllegalStateException", Cond.initialized "java/lang/IllegalStateException", Cond.fieldLink RX3 34 "RenameRows" "marks" "LRenameRows$Marks;", Cond.classLink RX3 52 RJx00060, Cond.instantiable RJx00060 6, Cond.initialized RJx00060, Cond.methodLink RX3 157 yX0_isMark, Cond.instanceMethod yX0_isMark, Cond.selects RX0 yX0_isMark yX0_isMark, Cond.initialized RX0, Cond.code yX0_isMark cX0_isMark 2 (some .boolean), Cond.methodLink RX3 162 yX0_isFree, Cond.instanceMethod yX0_isFree, Cond.selects RX0 yX0_isFree yX0_isFree, Cond.code yX0_isFree cX0_isFree 2 (some .boolean), Cond.methodLink RX0 18 yX0_turnOf, Cond.instanceMethod yX0_turnOf]
def wsL_right_r2 : List Cond := [Cond.selects RX0 yX0_turnOf yX0_turnOf, Cond.code yX0_turnOf cX0_turnOf 3 (some .int), Cond.fieldLink RX0 22 "RenameRows$Marks" "taken" "I", Cond.fieldLink RX0 15 "RenameRows$Marks" "byTurn" "[I", Cond.methodLink RX3 167 yX0_release, Cond.instanceMethod yX0_release, Cond.selects RX0 yX0_release yX0_release, Cond.code yX0_release cX0_release 4 none, Cond.methodLink RX3 170 yX0_takenCount, Cond.instanceMethod yX0_takenCount, Cond.selects RX0 yX0_takenCount yX0_takenCount, Cond.code yX0_takenCount cX0_takenCount 1 (some .int)]
def wsL_right : List Cond := .codeWith yL_right cL_right 4 (some .int) [(0, 9, 12, 13), (0, 9, 15, 22)] :: ((wsL_right_r1 ++ wsL_right_r2) ++ wsX30 ++ wsJx000600 ++ wsX00 ++ (vx_atS RX3 104 "java/lang/IllegalStateException" ["java/lang/RuntimeException", "java/lang/Exception"]).filter goodWord)
def wsL_wrong_r1 : List Cond := [Cond.classLink RL 13 "java/lang/ArrayIndexOutOfBoundsException", Cond.classLink RL 22 "java/lang/IllegalStateException", Cond.methodLink RL 42 yX3_wrong, Cond.instanceMethod yX3_wrong, Cond.selects RX3 yX3_wrong yX3_wrong, Cond.initialized RX3, Cond.code yX3_wrong cX3_wrong 4 (some .int), Cond.classLink RX3 100 "java/lang/IllegalStateException", Cond.initialized "java/lang/IllegalStateException", Cond.fieldLink RX3 34 "RenameRows" "marks" "LRenameRows$Marks;", Cond.classLink RX3 52 RJx00060, Cond.instantiable RJx00060 6, Cond.initialized RJx00060, Cond.fieldLink RX3 27 "RenameRows" "ring" "LRenameRows$Ring;", Cond.fieldLink RX3 182 "RenameRows" "takenBack" "I", Cond.methodLink RX3 157 yX0_isMark, Cond.instanceMethod yX0_isMark, Cond.selects RX0 yX0_isMark yX0_isMark, Cond.initialized RX0, Cond.code yX0_isMark cX0_isMark 2 (some .boolean), Cond.methodLink RX3 162 yX0_isFree, Cond.instanceMethod yX0_isFree, Cond.selects RX0 yX0_isFree yX0_isFree, Cond.code yX0_isFree cX0_isFree 2 (some .boolean)]
def wsL_wrong_r2 : List Cond := [Cond.methodLink RX0 18 yX0_turnOf, Cond.instanceMethod yX0_turnOf, Cond.selects RX0 yX0_turnOf yX0_turnOf, Cond.code yX0_turnOf cX0_turnOf 3 (some .int), Cond.fieldLink RX0 22 "RenameRows$Marks" "taken" "I", Cond.fieldLink RX0 15 "RenameRows$Marks" "byTurn" "[I", Cond.methodLink RX3 151 yX2_rowsSinceBeginning, Cond.instanceMethod yX2_rowsSinceBeginning, Cond.selects RX2 yX2_rowsSinceBeginning yX2_rowsSinceBeginning, Cond.initialized RX2, Cond.code yX2_rowsSinceBeginning cX2_rowsSinceBeginning 1 (some .int), Cond.fieldLink RX2 37 "RenameRows$Ring" "done" "I", Cond.fieldLink RX2 33 "RenameRows$Ring" "rows" "I", Cond.methodLink RX3 173 yX0_rowsBefore, Cond.instanceMethod yX0_rowsBefore, Cond.selects RX0 yX0_rowsBefore yX0_rowsBefore, Cond.code yX0_rowsBefore cX0_rowsBefore 2 (some .int), Cond.fieldLink RX0 9 "RenameRows$Marks" "before" "[I", Cond.methodLink RX0 26 yX0_isMark, Cond.methodLink RX3 176 yX3_takeBackLast, Cond.instanceMethod yX3_takeBackLast, Cond.selects RX3 yX3_takeBackLast yX3_takeBackLast, Cond.code yX3_takeBackLast cX3_takeBackLast 3 none, Cond.fieldLink RX3 18 "RenameRows" "names" "LRenameRows$Names;"]
def wsL_wrong_r3 : List Cond := [Cond.fieldLink RX3 38 "RenameRows" "nameNow" "[I", Cond.methodLink RX3 254 yX2_lastPlace, Cond.instanceMethod yX2_lastPlace, Cond.selects RX2 yX2_lastPlace yX2_lastPlace, Cond.code yX2_lastPlace cX2_lastPlace 1 (some .int), Cond.methodLink RX2 54 yX2_placeOfAge, Cond.instanceMethod yX2_placeOfAge, Cond.selects RX2 yX2_placeOfAge yX2_placeOfAge, Cond.code yX2_placeOfAge cX2_placeOfAge 3 (some .int), Cond.fieldLink RX2 51 "RenameRows$Ring" "oldest" "I", Cond.fieldLink RX2 30 "RenameRows$Ring" "state" "[I", Cond.methodLink RX3 212 yX2_registerAt, Cond.instanceMethod yX2_registerAt, Cond.selects RX2 yX2_registerAt yX2_registerAt, Cond.code yX2_registerAt cX2_registerAt 2 (some .int), Cond.fieldLink RX2 24 "RenameRows$Ring" "register" "[I", Cond.methodLink RX2 40 yX2_isPlace, Cond.instanceMethod yX2_isPlace, Cond.selects RX2 yX2_isPlace yX2_isPlace, Cond.code yX2_isPlace cX2_isPlace 2 (some .boolean), Cond.methodLink RX3 85 yX3_isRegister, Cond.instanceMethod yX3_isRegister, Cond.selects RX3 yX3_isRegister yX3_isRegister, Cond.code yX3_isRegister cX3_isRegister 2 (some .boolean)]
def wsL_wrong_r4 : List Cond := [Cond.methodLink RX3 129 yX2_givenAt, Cond.instanceMethod yX2_givenAt, Cond.selects RX2 yX2_givenAt yX2_givenAt, Cond.code yX2_givenAt cX2_givenAt 2 (some .int), Cond.fieldLink RX2 18 "RenameRows$Ring" "given" "[I", Cond.methodLink RX3 248 yX1_giveBack, Cond.instanceMethod yX1_giveBack, Cond.selects RX1 yX1_giveBack yX1_giveBack, Cond.initialized RX1, Cond.code yX1_giveBack cX1_giveBack 2 none, Cond.fieldLink RX1 9 "RenameRows$Names" "held" "[I", Cond.fieldLink RX1 19 "RenameRows$Names" "queued" "[I", Cond.fieldLink RX1 22 "RenameRows$Names" "free" "I", Cond.methodLink RX1 26 yX1_isName, Cond.instanceMethod yX1_isName, Cond.selects RX1 yX1_isName yX1_isName, Cond.code yX1_isName cX1_isName 2 (some .boolean), Cond.methodLink RX1 30 yX1_slotOf, Cond.instanceMethod yX1_slotOf, Cond.selects RX1 yX1_slotOf yX1_slotOf, Cond.code yX1_slotOf cX1_slotOf 3 (some .int), Cond.fieldLink RX1 34 "RenameRows$Names" "first" "I", Cond.methodLink RX3 209 yX2_knownAt, Cond.instanceMethod yX2_knownAt]
def wsL_wrong_r5 : List Cond := [Cond.selects RX2 yX2_knownAt yX2_knownAt, Cond.code yX2_knownAt cX2_knownAt 2 (some .int), Cond.fieldLink RX2 21 "RenameRows$Ring" "known" "[I", Cond.methodLink RX3 257 yX2_dropLast, Cond.instanceMethod yX2_dropLast, Cond.selects RX2 yX2_dropLast yX2_dropLast, Cond.code yX2_dropLast cX2_dropLast 1 none, Cond.methodLink RX3 179 yX0_releaseFrom, Cond.instanceMethod yX0_releaseFrom, Cond.selects RX0 yX0_releaseFrom yX0_releaseFrom, Cond.code yX0_releaseFrom cX0_releaseFrom 3 none]
def wsL_wrong : List Cond := .codeWith yL_wrong cL_wrong 4 (some .int) [(0, 9, 12, 13), (0, 9, 15, 22)] :: ((wsL_wrong_r1 ++ (wsL_wrong_r2 ++ (wsL_wrong_r3 ++ (wsL_wrong_r4 ++ wsL_wrong_r5)))) ++ wsX30 ++ wsJx000600 ++ wsX00 ++ wsX20 ++ wsX10 ++ (vx_atS RX3 104 "java/lang/IllegalStateException" ["java/lang/RuntimeException", "java/lang/Exception"]).filter goodWord)
def wsL_name : List Cond := .codeWith yL_name cL_name 4 (some .int) [(0, 9, 12, 13)] :: ([.methodLink RL 45 yX3_name, .instanceMethod yX3_name, .selects RX3 yX3_name yX3_name, .initialized RX3, .code yX3_name cX3_name 2 (some .int), .classLink RX3 52 RJx00060, .instantiable RJx00060 6, .initialized RJx00060, .fieldLink RX3 38 "RenameRows" "nameNow" "[I", .methodLink RX3 85 yX3_isRegister, .instanceMethod yX3_isRegister, .selects RX3 yX3_isRegister yX3_isRegister, .code yX3_isRegister cX3_isRegister 2 (some .boolean)] ++ wsJx000600 ++ wsX30)
def wsL_sure : List Cond := .codeWith yL_sure cL_sure 4 (some .int) [(0, 9, 12, 13)] :: ([.methodLink RL 48 yX3_sure, .instanceMethod yX3_sure, .selects RX3 yX3_sure yX3_sure, .initialized RX3, .code yX3_sure cX3_sure 2 (some .int), .classLink RX3 52 RJx00060, .instantiable RJx00060 6, .initialized RJx00060, .fieldLink RX3 42 "RenameRows" "nameSure" "[I", .methodLink RX3 85 yX3_isRegister, .instanceMethod yX3_isRegister, .selects RX3 yX3_isRegister yX3_isRegister, .code yX3_isRegister cX3_isRegister 2 (some .boolean), .fieldLink RX3 38 "RenameRows" "nameNow" "[I"] ++ wsJx000600 ++ wsX30)
def wsL_shares : List Cond := .codeWith yL_shares cL_shares 4 (some .int) [(0, 9, 12, 13)] :: ([.methodLink RL 51 yX3_shares, .instanceMethod yX3_shares, .selects RX3 yX3_shares yX3_shares, .initialized RX3, .code yX3_shares cX3_shares 2 (some .int), .fieldLink RX3 18 "RenameRows" "names" "LRenameRows$Names;", .classLink RX3 52 RJx00060, .instantiable RJx00060 6, .initialized RJx00060, .methodLink RX3 185 yX1_isName, .instanceMethod yX1_isName, .selects RX1 yX1_isName yX1_isName, .initialized RX1, .code yX1_isName cX1_isName 2 (some .boolean), .fieldLink RX1 9 "RenameRows$Names" "held" "[I", .methodLink RX3 190 yX1_sharesOf, .instanceMethod yX1_sharesOf, .selects RX1 yX1_sharesOf yX1_sharesOf, .code yX1_sharesOf cX1_sharesOf 2 (some .int), .methodLink RX1 26 yX1_isName] ++ wsX30 ++ wsJx000600 ++ wsX10)
def wsL_queue_r1 : List Cond := [Cond.classLink RL 24 "java/lang/IllegalArgumentException", Cond.methodLink RL 54 yX3_queue, Cond.instanceMethod yX3_queue, Cond.selects RX3 yX3_queue yX3_queue, Cond.initialized RX3, Cond.code yX3_queue cX3_queue 2 (some .int), Cond.classLink RX3 105 "java/lang/IllegalArgumentException", Cond.initialized "java/lang/IllegalArgumentException", Cond.fieldLink RX3 18 "RenameRows" "names" "LRenameRows$Names;", Cond.methodLink RX3 67 yX1_freeCount, Cond.instanceMethod yX1_freeCount, Cond.selects RX1 yX1_freeCount yX1_freeCount, Cond.initialized RX1, Cond.code yX1_freeCount cX1_freeCount 1 (some .int), Cond.fieldLink RX1 22 "RenameRows$Names" "free" "I", Cond.methodLink RX3 195 yX1_freeAt, Cond.instanceMethod yX1_freeAt, Cond.selects RX1 yX1_freeAt yX1_freeAt, Cond.code yX1_freeAt cX1_freeAt 2 (some .int), Cond.fieldLink RX1 19 "RenameRows$Names" "queued" "[I", Cond.methodLink RX1 30 yX1_slotOf, Cond.instanceMethod yX1_slotOf, Cond.selects RX1 yX1_slotOf yX1_slotOf, Cond.code yX1_slotOf cX1_slotOf 3 (some .int)]
def wsL_queue_r2 : List Cond := [Cond.fieldLink RX1 34 "RenameRows$Names" "first" "I"]
def wsL_queue : List Cond := .codeWith yL_queue cL_queue 4 (some .int) [(0, 9, 12, 24)] :: ((wsL_queue_r1 ++ wsL_queue_r2) ++ wsX30 ++ wsX10 ++ (vx_atS RX3 109 "java/lang/IllegalArgumentException" ["java/lang/RuntimeException", "java/lang/Exception"]).filter goodWord)
def wsL_row_r1 : List Cond := [Cond.classLink RL 13 "java/lang/ArrayIndexOutOfBoundsException", Cond.classLink RL 22 "java/lang/IllegalStateException", Cond.classLink RL 24 "java/lang/IllegalArgumentException", Cond.methodLink RL 57 yX3_row, Cond.instanceMethod yX3_row, Cond.selects RX3 yX3_row yX3_row, Cond.initialized RX3, Cond.code yX3_row cX3_row 3 (some .int), Cond.classLink RX3 100 "java/lang/IllegalStateException", Cond.initialized "java/lang/IllegalStateException", Cond.classLink RX3 105 "java/lang/IllegalArgumentException", Cond.initialized "java/lang/IllegalArgumentException", Cond.fieldLink RX3 27 "RenameRows" "ring" "LRenameRows$Ring;", Cond.classLink RX3 52 RJx00060, Cond.instantiable RJx00060 6, Cond.initialized RJx00060, Cond.methodLink RX3 91 yX2_isPlace, Cond.instanceMethod yX2_isPlace, Cond.selects RX2 yX2_isPlace yX2_isPlace, Cond.initialized RX2, Cond.code yX2_isPlace cX2_isPlace 2 (some .boolean), Cond.fieldLink RX2 30 "RenameRows$Ring" "state" "[I", Cond.methodLink RX3 198 yX2_holdsRow, Cond.instanceMethod yX2_holdsRow]
def wsL_row_r2 : List Cond := [Cond.selects RX2 yX2_holdsRow yX2_holdsRow, Cond.code yX2_holdsRow cX2_holdsRow 2 (some .boolean), Cond.fieldLink RX2 33 "RenameRows$Ring" "rows" "I", Cond.methodLink RX2 40 yX2_isPlace, Cond.methodLink RX2 44 yX2_ageOf, Cond.instanceMethod yX2_ageOf, Cond.selects RX2 yX2_ageOf yX2_ageOf, Cond.code yX2_ageOf cX2_ageOf 2 (some .int), Cond.fieldLink RX2 51 "RenameRows$Ring" "oldest" "I", Cond.methodLink RX3 203 yX2_readAAt, Cond.instanceMethod yX2_readAAt, Cond.selects RX2 yX2_readAAt yX2_readAAt, Cond.code yX2_readAAt cX2_readAAt 2 (some .int), Cond.fieldLink RX2 9 "RenameRows$Ring" "readA" "[I", Cond.methodLink RX3 206 yX2_readBAt, Cond.instanceMethod yX2_readBAt, Cond.selects RX2 yX2_readBAt yX2_readBAt, Cond.code yX2_readBAt cX2_readBAt 2 (some .int), Cond.fieldLink RX2 15 "RenameRows$Ring" "readB" "[I", Cond.methodLink RX3 129 yX2_givenAt, Cond.instanceMethod yX2_givenAt, Cond.selects RX2 yX2_givenAt yX2_givenAt, Cond.code yX2_givenAt cX2_givenAt 2 (some .int), Cond.fieldLink RX2 18 "RenameRows$Ring" "given" "[I"]
def wsL_row_r3 : List Cond := [Cond.methodLink RX3 209 yX2_knownAt, Cond.instanceMethod yX2_knownAt, Cond.selects RX2 yX2_knownAt yX2_knownAt, Cond.code yX2_knownAt cX2_knownAt 2 (some .int), Cond.fieldLink RX2 21 "RenameRows$Ring" "known" "[I", Cond.methodLink RX3 212 yX2_registerAt, Cond.instanceMethod yX2_registerAt, Cond.selects RX2 yX2_registerAt yX2_registerAt, Cond.code yX2_registerAt cX2_registerAt 2 (some .int), Cond.fieldLink RX2 24 "RenameRows$Ring" "register" "[I", Cond.methodLink RX3 110 yX2_portAt, Cond.instanceMethod yX2_portAt, Cond.selects RX2 yX2_portAt yX2_portAt, Cond.code yX2_portAt cX2_portAt 2 (some .int), Cond.fieldLink RX2 27 "RenameRows$Ring" "port" "[I", Cond.methodLink RX3 215 yX2_stateAt, Cond.instanceMethod yX2_stateAt, Cond.selects RX2 yX2_stateAt yX2_stateAt, Cond.code yX2_stateAt cX2_stateAt 2 (some .int)]
def wsL_row : List Cond := .codeWith yL_row cL_row 5 (some .int) [(0, 10, 13, 13), (0, 10, 17, 22), (0, 10, 21, 24)] :: ((wsL_row_r1 ++ (wsL_row_r2 ++ wsL_row_r3)) ++ wsX30 ++ wsJx000600 ++ wsX20 ++ (vx_atS RX3 104 "java/lang/IllegalStateException" ["java/lang/RuntimeException", "java/lang/Exception"]).filter goodWord ++ (vx_atS RX3 109 "java/lang/IllegalArgumentException" ["java/lang/RuntimeException", "java/lang/Exception"]).filter goodWord)
def wsL_law0_r1 : List Cond := [Cond.classLink RL 8 RX3, Cond.instantiable RX3 9, Cond.initialized RX3, Cond.classLink RL 69 RX4, Cond.instantiable RX4 29, Cond.initialized RX4, Cond.arrayClass .long, Cond.methodLink RL 60 yL_cell, Cond.static yL_cell, Cond.initialized RL, Cond.code yL_cell cL_cell 2 (some .int), Cond.methodLink RL 66 yX3_init, Cond.instanceMethod yX3_init, Cond.code yX3_init cX3_init 6 none, Cond.methodLink RX3 1 objectInit, Cond.instanceMethod objectInit, Cond.code objectInit ⟨#[0xb1]⟩ 1 none, Cond.classLink RX3 13 RX1, Cond.instantiable RX1 5, Cond.initialized RX1, Cond.fieldLink RX3 18 "RenameRows" "names" "LRenameRows$Names;", Cond.classLink RX3 22 RX2, Cond.instantiable RX2 10, Cond.initialized RX2]
def wsL_law0_r2 : List Cond := [Cond.fieldLink RX3 27 "RenameRows" "ring" "LRenameRows$Ring;", Cond.classLink RX3 31 RX0, Cond.instantiable RX0 3, Cond.initialized RX0, Cond.fieldLink RX3 34 "RenameRows" "marks" "LRenameRows$Marks;", Cond.arrayClass .int, Cond.fieldLink RX3 38 "RenameRows" "nameNow" "[I", Cond.fieldLink RX3 42 "RenameRows" "nameSure" "[I", Cond.fieldLink RX3 45 "RenameRows" "wentTo" "[I", Cond.methodLink RX3 9 yX3_oneToSize, Cond.static yX3_oneToSize, Cond.code yX3_oneToSize cX3_oneToSize 2 (some .int), Cond.methodLink RX3 15 yX1_init, Cond.instanceMethod yX1_init, Cond.code yX1_init cX1_init 5 none, Cond.methodLink RX1 3 objectInit, Cond.fieldLink RX1 9 "RenameRows$Names" "held" "[I", Cond.arrayClass .boolean, Cond.fieldLink RX1 15 "RenameRows$Names" "ready" "[Z", Cond.fieldLink RX1 19 "RenameRows$Names" "queued" "[I", Cond.fieldLink RX1 22 "RenameRows$Names" "free" "I", Cond.methodLink RX3 24 yX2_init, Cond.instanceMethod yX2_init, Cond.code yX2_init cX2_init 2 none]
def wsL_law0_r3 : List Cond := [Cond.methodLink RX2 3 objectInit, Cond.fieldLink RX2 9 "RenameRows$Ring" "readA" "[I", Cond.fieldLink RX2 15 "RenameRows$Ring" "readB" "[I", Cond.fieldLink RX2 18 "RenameRows$Ring" "given" "[I", Cond.fieldLink RX2 21 "RenameRows$Ring" "known" "[I", Cond.fieldLink RX2 24 "RenameRows$Ring" "register" "[I", Cond.fieldLink RX2 27 "RenameRows$Ring" "port" "[I", Cond.fieldLink RX2 30 "RenameRows$Ring" "state" "[I", Cond.instanceMethod yX0_init, Cond.code yX0_init cX0_init 1 none, Cond.methodLink RX0 3 objectInit, Cond.fieldLink RX0 9 "RenameRows$Marks" "before" "[I", Cond.fieldLink RX0 15 "RenameRows$Marks" "byTurn" "[I", Cond.methodLink RL 71 yX4_init, Cond.instanceMethod yX4_init, Cond.code yX4_init cX4_init 5 none, Cond.methodLink RX4 1 objectInit, Cond.fieldLink RX4 7 "RenameRowsModel" "name" "[I", Cond.fieldLink RX4 13 "RenameRowsModel" "sure" "[I", Cond.fieldLink RX4 16 "RenameRowsModel" "shares" "[I", Cond.fieldLink RX4 19 "RenameRowsModel" "ready" "[Z", Cond.fieldLink RX4 23 "RenameRowsModel" "queue" "[I", Cond.fieldLink RX4 26 "RenameRowsModel" "first" "[I", Cond.fieldLink RX4 29 "RenameRowsModel" "second" "[I"]
def wsL_law0_r4 : List Cond := [Cond.fieldLink RX4 32 "RenameRowsModel" "gave" "[I", Cond.fieldLink RX4 35 "RenameRowsModel" "knew" "[I", Cond.fieldLink RX4 38 "RenameRowsModel" "register" "[I", Cond.fieldLink RX4 41 "RenameRowsModel" "ports" "[I", Cond.fieldLink RX4 44 "RenameRowsModel" "state" "[I", Cond.fieldLink RX4 47 "RenameRowsModel" "marked" "[Z", Cond.fieldLink RX4 50 "RenameRowsModel" "before" "[I", Cond.fieldLink RX4 53 "RenameRowsModel" "age" "[I", Cond.fieldLink RX4 56 "RenameRowsModel" "went" "[I", Cond.fieldLink RX4 63 "RenameRowsModel" "registers" "I", Cond.fieldLink RX4 67 "RenameRowsModel" "names" "I", Cond.fieldLink RX4 70 "RenameRowsModel" "places" "I", Cond.fieldLink RX4 73 "RenameRowsModel" "free" "I", Cond.methodLink RX4 59 yX4_rest, Cond.static yX4_rest, Cond.code yX4_rest cX4_rest 3 (some .int), Cond.methodLink RL 72 yL_dispatch, Cond.static yL_dispatch, Cond.codeWith yL_dispatch cL_dispatch 6 (some .int) [(0, 12, 15, 13)], Cond.methodLink RL 7 yX3_dispatch, Cond.instanceMethod yX3_dispatch, Cond.selects RX3 yX3_dispatch yX3_dispatch, Cond.code yX3_dispatch cX3_dispatch 7 (some .int), Cond.classLink RX3 52 RJx00060]
def wsL_law0_r5 : List Cond := [Cond.instantiable RJx00060 6, Cond.initialized RJx00060, Cond.fieldLink RX3 63 "RenameRows" "wantsOfPlace" "I", Cond.fieldLink RX3 71 "RenameRows" "wantsOfName" "I", Cond.methodLink RX3 48 yX3_isRegisterOrNone, Cond.instanceMethod yX3_isRegisterOrNone, Cond.selects RX3 yX3_isRegisterOrNone yX3_isRegisterOrNone, Cond.code yX3_isRegisterOrNone cX3_isRegisterOrNone 2 (some .boolean), Cond.methodLink RX3 85 yX3_isRegister, Cond.instanceMethod yX3_isRegister, Cond.selects RX3 yX3_isRegister yX3_isRegister, Cond.code yX3_isRegister cX3_isRegister 2 (some .boolean), Cond.methodLink RX3 59 yX2_isFull, Cond.instanceMethod yX2_isFull, Cond.selects RX2 yX2_isFull yX2_isFull, Cond.code yX2_isFull cX2_isFull 1 (some .boolean), Cond.fieldLink RX2 33 "RenameRows$Ring" "rows" "I", Cond.methodLink RX3 67 yX1_freeCount, Cond.instanceMethod yX1_freeCount, Cond.selects RX1 yX1_freeCount yX1_freeCount, Cond.code yX1_freeCount cX1_freeCount 1 (some .int), Cond.methodLink RX3 74 yX3_currentName, Cond.instanceMethod yX3_currentName, Cond.selects RX3 yX3_currentName yX3_currentName]
def wsL_law0_r6 : List Cond := [Cond.code yX3_currentName cX3_currentName 2 (some .int), Cond.methodLink RX3 78 yX1_takeFirstFree, Cond.instanceMethod yX1_takeFirstFree, Cond.selects RX1 yX1_takeFirstFree yX1_takeFirstFree, Cond.code yX1_takeFirstFree cX1_takeFirstFree 2 (some .int), Cond.fieldLink RX1 34 "RenameRows$Names" "first" "I", Cond.methodLink RX1 30 yX1_slotOf, Cond.instanceMethod yX1_slotOf, Cond.selects RX1 yX1_slotOf yX1_slotOf, Cond.code yX1_slotOf cX1_slotOf 3 (some .int), Cond.methodLink RX3 81 yX3_appendRow, Cond.instanceMethod yX3_appendRow, Cond.selects RX3 yX3_appendRow yX3_appendRow, Cond.code yX3_appendRow cX3_appendRow 7 (some .int), Cond.methodLink RX3 232 yX2_append, Cond.instanceMethod yX2_append, Cond.selects RX2 yX2_append yX2_append, Cond.code yX2_append cX2_append 8 (some .int), Cond.methodLink RX2 57 yX2_isFull, Cond.methodLink RX2 54 yX2_placeOfAge, Cond.instanceMethod yX2_placeOfAge, Cond.selects RX2 yX2_placeOfAge yX2_placeOfAge, Cond.code yX2_placeOfAge cX2_placeOfAge 3 (some .int), Cond.fieldLink RX2 51 "RenameRows$Ring" "oldest" "I"]
def wsL_law0_r7 : List Cond := [Cond.methodLink RL 75 yX4_dispatch, Cond.instanceMethod yX4_dispatch, Cond.selects RX4 yX4_dispatch yX4_dispatch, Cond.code yX4_dispatch cX4_dispatch 8 (some .int), Cond.fieldLink RX4 86 "RenameRowsModel" "rows" "I", Cond.fieldLink RX4 100 "RenameRowsModel" "noPlace" "I", Cond.fieldLink RX4 103 "RenameRowsModel" "noName" "I", Cond.methodLink RX4 93 yX4_isRegister, Cond.instanceMethod yX4_isRegister, Cond.selects RX4 yX4_isRegister yX4_isRegister, Cond.code yX4_isRegister cX4_isRegister 2 (some .boolean), Cond.methodLink RX4 96 yX4_throwing, Cond.instanceMethod yX4_throwing, Cond.selects RX4 yX4_throwing yX4_throwing, Cond.code yX4_throwing cX4_throwing 4 (some .boolean), Cond.fieldLink RX4 76 "RenameRowsModel" "thrown" "I", Cond.methodLink RX4 106 yX4_takeName, Cond.instanceMethod yX4_takeName, Cond.selects RX4 yX4_takeName yX4_takeName, Cond.code yX4_takeName cX4_takeName 3 (some .int), Cond.methodLink RX4 110 yX4_add, Cond.instanceMethod yX4_add, Cond.selects RX4 yX4_add yX4_add, Cond.code yX4_add cX4_add 6 (some .int)]
def wsL_law0_r8 : List Cond := [Cond.methodLink RX4 89 yX4_placeOf, Cond.instanceMethod yX4_placeOf, Cond.selects RX4 yX4_placeOf yX4_placeOf, Cond.code yX4_placeOf cX4_placeOf 2 (some .int), Cond.fieldLink RX4 83 "RenameRowsModel" "head" "I", Cond.methodLink RL 76 yX4_thrown, Cond.instanceMethod yX4_thrown, Cond.selects RX4 yX4_thrown yX4_thrown, Cond.code yX4_thrown cX4_thrown 1 (some .int), Cond.methodLink RL 80 yL_move, Cond.static yL_move, Cond.codeWith yL_move cL_move 5 (some .int) [(0, 10, 13, 13)], Cond.methodLink RL 15 yX3_move, Cond.instanceMethod yX3_move, Cond.selects RX3 yX3_move yX3_move, Cond.code yX3_move cX3_move 4 (some .int), Cond.methodLink RX3 88 yX1_addShare, Cond.instanceMethod yX1_addShare, Cond.selects RX1 yX1_addShare yX1_addShare, Cond.code yX1_addShare cX1_addShare 2 none, Cond.methodLink RX1 26 yX1_isName, Cond.instanceMethod yX1_isName, Cond.selects RX1 yX1_isName yX1_isName, Cond.code yX1_isName cX1_isName 2 (some .boolean)]
def wsL_law0_r9 : List Cond := [Cond.methodLink RL 83 yX4_move, Cond.instanceMethod yX4_move, Cond.selects RX4 yX4_move yX4_move, Cond.code yX4_move cX4_move 3 (some .int), Cond.methodLink RL 84 yL_port, Cond.static yL_port, Cond.codeWith yL_port cL_port 5 (some .int) [(0, 10, 13, 13), (0, 10, 17, 22), (0, 10, 21, 24)], Cond.classLink RL 13 "java/lang/ArrayIndexOutOfBoundsException", Cond.classLink RL 22 "java/lang/IllegalStateException", Cond.classLink RL 24 "java/lang/IllegalArgumentException", Cond.methodLink RL 19 yX3_port, Cond.instanceMethod yX3_port, Cond.selects RX3 yX3_port yX3_port, Cond.code yX3_port cX3_port 4 (some .int), Cond.classLink RX3 100 "java/lang/IllegalStateException", Cond.initialized "java/lang/IllegalStateException", Cond.classLink RX3 105 "java/lang/IllegalArgumentException", Cond.initialized "java/lang/IllegalArgumentException", Cond.methodLink RX3 91 yX2_isPlace, Cond.instanceMethod yX2_isPlace, Cond.selects RX2 yX2_isPlace yX2_isPlace, Cond.code yX2_isPlace cX2_isPlace 2 (some .boolean), Cond.methodLink RX3 96 yX2_isInState, Cond.instanceMethod yX2_isInState]
def wsL_law0_r10 : List Cond := [Cond.selects RX2 yX2_isInState yX2_isInState, Cond.code yX2_isInState cX2_isInState 3 (some .boolean), Cond.methodLink RX2 48 yX2_holdsRow, Cond.instanceMethod yX2_holdsRow, Cond.selects RX2 yX2_holdsRow yX2_holdsRow, Cond.code yX2_holdsRow cX2_holdsRow 2 (some .boolean), Cond.methodLink RX2 40 yX2_isPlace, Cond.methodLink RX2 44 yX2_ageOf, Cond.instanceMethod yX2_ageOf, Cond.selects RX2 yX2_ageOf yX2_ageOf, Cond.code yX2_ageOf cX2_ageOf 2 (some .int), Cond.methodLink RX3 110 yX2_portAt, Cond.instanceMethod yX2_portAt, Cond.selects RX2 yX2_portAt yX2_portAt, Cond.code yX2_portAt cX2_portAt 2 (some .int), Cond.methodLink RX3 113 yX2_setPort, Cond.instanceMethod yX2_setPort, Cond.selects RX2 yX2_setPort yX2_setPort, Cond.code yX2_setPort cX2_setPort 3 none, Cond.methodLink RL 86 yX4_port, Cond.instanceMethod yX4_port, Cond.selects RX4 yX4_port yX4_port, Cond.code yX4_port cX4_port 5 (some .int), Cond.methodLink RX4 114 yX4_isPlace]
def wsL_law0_r11 : List Cond := [Cond.instanceMethod yX4_isPlace, Cond.selects RX4 yX4_isPlace yX4_isPlace, Cond.code yX4_isPlace cX4_isPlace 2 (some .boolean), Cond.methodLink RX4 117 yX4_at, Cond.instanceMethod yX4_at, Cond.selects RX4 yX4_at yX4_at, Cond.code yX4_at cX4_at 3 (some .int), Cond.methodLink RL 87 yL_select, Cond.static yL_select, Cond.codeWith yL_select cL_select 4 (some .int) [(0, 9, 12, 24)], Cond.methodLink RL 26 yX3_select, Cond.instanceMethod yX3_select, Cond.selects RX3 yX3_select yX3_select, Cond.code yX3_select cX3_select 5 (some .int), Cond.methodLink RX3 118 yX3_oldestAbleFor, Cond.instanceMethod yX3_oldestAbleFor, Cond.selects RX3 yX3_oldestAbleFor yX3_oldestAbleFor, Cond.code yX3_oldestAbleFor cX3_oldestAbleFor 4 (some .int), Cond.methodLink RX3 226 yX2_rowCount, Cond.instanceMethod yX2_rowCount, Cond.selects RX2 yX2_rowCount yX2_rowCount, Cond.code yX2_rowCount cX2_rowCount 1 (some .int), Cond.methodLink RX3 239 yX2_placeOfAge, Cond.methodLink RX3 242 yX3_isAble]
def wsL_law0_r12 : List Cond := [Cond.instanceMethod yX3_isAble, Cond.selects RX3 yX3_isAble yX3_isAble, Cond.code yX3_isAble cX3_isAble 2 (some .boolean), Cond.methodLink RX3 203 yX2_readAAt, Cond.instanceMethod yX2_readAAt, Cond.selects RX2 yX2_readAAt yX2_readAAt, Cond.code yX2_readAAt cX2_readAAt 2 (some .int), Cond.methodLink RX3 236 yX1_isReadyOrNone, Cond.instanceMethod yX1_isReadyOrNone, Cond.selects RX1 yX1_isReadyOrNone yX1_isReadyOrNone, Cond.code yX1_isReadyOrNone cX1_isReadyOrNone 2 (some .boolean), Cond.methodLink RX3 206 yX2_readBAt, Cond.instanceMethod yX2_readBAt, Cond.selects RX2 yX2_readBAt yX2_readBAt, Cond.code yX2_readBAt cX2_readBAt 2 (some .int), Cond.methodLink RX3 121 yX2_setState, Cond.instanceMethod yX2_setState, Cond.selects RX2 yX2_setState yX2_setState, Cond.code yX2_setState cX2_setState 3 none, Cond.methodLink RL 90 yX4_select, Cond.instanceMethod yX4_select, Cond.selects RX4 yX4_select yX4_select, Cond.code yX4_select cX4_select 5 (some .int), Cond.methodLink RX4 120 yX4_mayGo]
def wsL_law0_r13 : List Cond := [Cond.instanceMethod yX4_mayGo, Cond.selects RX4 yX4_mayGo yX4_mayGo, Cond.code yX4_mayGo cX4_mayGo 2 (some .boolean), Cond.methodLink RX4 79 yX4_isReady, Cond.instanceMethod yX4_isReady, Cond.selects RX4 yX4_isReady yX4_isReady, Cond.code yX4_isReady cX4_isReady 2 (some .boolean), Cond.methodLink RL 91 yL_selected, Cond.static yL_selected, Cond.codeWith yL_selected cL_selected 4 (some .int) [(0, 9, 12, 13)], Cond.methodLink RL 30 yX3_selected, Cond.instanceMethod yX3_selected, Cond.selects RX3 yX3_selected yX3_selected, Cond.code yX3_selected cX3_selected 2 (some .int), Cond.methodLink RL 93 yX4_selected, Cond.instanceMethod yX4_selected, Cond.selects RX4 yX4_selected yX4_selected, Cond.code yX4_selected cX4_selected 2 (some .int), Cond.methodLink RL 94 yL_end, Cond.static yL_end, Cond.codeWith yL_end cL_end 4 (some .int) [(0, 9, 12, 13), (0, 9, 15, 22)], Cond.methodLink RL 33 yX3_end, Cond.instanceMethod yX3_end, Cond.selects RX3 yX3_end yX3_end]
def wsL_law0_r14 : List Cond := [Cond.code yX3_end cX3_end 3 (some .int), Cond.methodLink RX3 126 yX3_countAble, Cond.instanceMethod yX3_countAble, Cond.selects RX3 yX3_countAble yX3_countAble, Cond.code yX3_countAble cX3_countAble 3 (some .int), Cond.methodLink RX3 129 yX2_givenAt, Cond.instanceMethod yX2_givenAt, Cond.selects RX2 yX2_givenAt yX2_givenAt, Cond.code yX2_givenAt cX2_givenAt 2 (some .int), Cond.methodLink RX3 132 yX1_makeReady, Cond.instanceMethod yX1_makeReady, Cond.selects RX1 yX1_makeReady yX1_makeReady, Cond.code yX1_makeReady cX1_makeReady 2 none, Cond.methodLink RL 96 yX4_end, Cond.instanceMethod yX4_end, Cond.selects RX4 yX4_end yX4_end, Cond.code yX4_end cX4_end 4 (some .int), Cond.methodLink RX4 123 yX4_mayGoAll, Cond.instanceMethod yX4_mayGoAll, Cond.selects RX4 yX4_mayGoAll yX4_mayGoAll, Cond.code yX4_mayGoAll cX4_mayGoAll 3 (some .int), Cond.methodLink RL 97 yL_commit, Cond.static yL_commit, Cond.codeWith yL_commit cL_commit 4 (some .int) [(0, 9, 12, 24)]]
def wsL_law0_r15 : List Cond := [Cond.methodLink RL 36 yX3_commit, Cond.instanceMethod yX3_commit, Cond.selects RX3 yX3_commit yX3_commit, Cond.code yX3_commit cX3_commit 4 (some .int), Cond.methodLink RX3 140 Lib.Math.min.name, Cond.static Lib.Math.min.name, Cond.initialized "java/lang/Math", Cond.code Lib.Math.min.name Lib.Math.min.code 2 (some .int), Cond.methodLink RX3 137 yX3_rowsBeforeOldestMark, Cond.instanceMethod yX3_rowsBeforeOldestMark, Cond.selects RX3 yX3_rowsBeforeOldestMark yX3_rowsBeforeOldestMark, Cond.code yX3_rowsBeforeOldestMark cX3_rowsBeforeOldestMark 2 (some .int), Cond.methodLink RX3 245 yX0_oldest, Cond.instanceMethod yX0_oldest, Cond.selects RX0 yX0_oldest yX0_oldest, Cond.code yX0_oldest cX0_oldest 1 (some .int), Cond.fieldLink RX0 22 "RenameRows$Marks" "taken" "I", Cond.methodLink RX3 173 yX0_rowsBefore, Cond.instanceMethod yX0_rowsBefore, Cond.selects RX0 yX0_rowsBefore yX0_rowsBefore, Cond.code yX0_rowsBefore cX0_rowsBefore 2 (some .int), Cond.methodLink RX0 26 yX0_isMark, Cond.instanceMethod yX0_isMark, Cond.selects RX0 yX0_isMark yX0_isMark]
def wsL_law0_r16 : List Cond := [Cond.code yX0_isMark cX0_isMark 2 (some .boolean), Cond.methodLink RX3 229 yX2_doneCount, Cond.instanceMethod yX2_doneCount, Cond.selects RX2 yX2_doneCount yX2_doneCount, Cond.code yX2_doneCount cX2_doneCount 1 (some .int), Cond.fieldLink RX2 37 "RenameRows$Ring" "done" "I", Cond.methodLink RX3 145 yX2_oldestPlace, Cond.instanceMethod yX2_oldestPlace, Cond.selects RX2 yX2_oldestPlace yX2_oldestPlace, Cond.code yX2_oldestPlace cX2_oldestPlace 1 (some .int), Cond.methodLink RX3 148 yX3_finishOldest, Cond.instanceMethod yX3_finishOldest, Cond.selects RX3 yX3_finishOldest yX3_finishOldest, Cond.code yX3_finishOldest cX3_finishOldest 3 none, Cond.methodLink RX3 212 yX2_registerAt, Cond.instanceMethod yX2_registerAt, Cond.selects RX2 yX2_registerAt yX2_registerAt, Cond.code yX2_registerAt cX2_registerAt 2 (some .int), Cond.methodLink RX3 209 yX2_knownAt, Cond.instanceMethod yX2_knownAt, Cond.selects RX2 yX2_knownAt yX2_knownAt, Cond.code yX2_knownAt cX2_knownAt 2 (some .int), Cond.methodLink RX3 248 yX1_giveBack, Cond.instanceMethod yX1_giveBack]
def wsL_law0_r17 : List Cond := [Cond.selects RX1 yX1_giveBack yX1_giveBack, Cond.code yX1_giveBack cX1_giveBack 2 none, Cond.methodLink RX3 251 yX2_dropOldest, Cond.instanceMethod yX2_dropOldest, Cond.selects RX2 yX2_dropOldest yX2_dropOldest, Cond.code yX2_dropOldest cX2_dropOldest 1 none, Cond.methodLink RL 99 yX4_commit, Cond.instanceMethod yX4_commit, Cond.selects RX4 yX4_commit yX4_commit, Cond.code yX4_commit cX4_commit 3 (some .int), Cond.fieldLink RX4 127 "RenameRowsModel" "done" "I", Cond.methodLink RX4 130 yX4_bound, Cond.instanceMethod yX4_bound, Cond.selects RX4 yX4_bound yX4_bound, Cond.code yX4_bound cX4_bound 3 (some .int), Cond.constant RX4 126 (2147483647), Cond.methodLink RX4 133 yX4_giveBack, Cond.instanceMethod yX4_giveBack, Cond.selects RX4 yX4_giveBack yX4_giveBack, Cond.code yX4_giveBack cX4_giveBack 2 none, Cond.methodLink RX4 137 yX4_shift, Cond.instanceMethod yX4_shift, Cond.selects RX4 yX4_shift yX4_shift, Cond.code yX4_shift cX4_shift 2 none]
def wsL_law0_r18 : List Cond := [Cond.methodLink RL 100 yX3_branch, Cond.instanceMethod yX3_branch, Cond.selects RX3 yX3_branch yX3_branch, Cond.code yX3_branch cX3_branch 1 (some .int), Cond.methodLink RX3 151 yX2_rowsSinceBeginning, Cond.instanceMethod yX2_rowsSinceBeginning, Cond.selects RX2 yX2_rowsSinceBeginning yX2_rowsSinceBeginning, Cond.code yX2_rowsSinceBeginning cX2_rowsSinceBeginning 1 (some .int), Cond.methodLink RX3 154 yX0_takeLowest, Cond.instanceMethod yX0_takeLowest, Cond.selects RX0 yX0_takeLowest yX0_takeLowest, Cond.code yX0_takeLowest cX0_takeLowest 3 (some .int), Cond.methodLink RX0 30 yX0_isFree, Cond.instanceMethod yX0_isFree, Cond.selects RX0 yX0_isFree yX0_isFree, Cond.code yX0_isFree cX0_isFree 2 (some .boolean), Cond.methodLink RX0 18 yX0_turnOf, Cond.instanceMethod yX0_turnOf, Cond.selects RX0 yX0_turnOf yX0_turnOf, Cond.code yX0_turnOf cX0_turnOf 3 (some .int), Cond.methodLink RL 103 yX4_branch, Cond.instanceMethod yX4_branch, Cond.selects RX4 yX4_branch yX4_branch, Cond.code yX4_branch cX4_branch 2 (some .int)]
def wsL_law0_r19 : List Cond := [Cond.fieldLink RX4 140 "RenameRowsModel" "marks" "I", Cond.fieldLink RX4 143 "RenameRowsModel" "branches" "I", Cond.methodLink RL 104 yL_right, Cond.static yL_right, Cond.codeWith yL_right cL_right 4 (some .int) [(0, 9, 12, 13), (0, 9, 15, 22)], Cond.methodLink RL 39 yX3_right, Cond.instanceMethod yX3_right, Cond.selects RX3 yX3_right yX3_right, Cond.code yX3_right cX3_right 2 (some .int), Cond.methodLink RX3 157 yX0_isMark, Cond.methodLink RX3 162 yX0_isFree, Cond.methodLink RX3 167 yX0_release, Cond.instanceMethod yX0_release, Cond.selects RX0 yX0_release yX0_release, Cond.code yX0_release cX0_release 4 none, Cond.methodLink RX3 170 yX0_takenCount, Cond.instanceMethod yX0_takenCount, Cond.selects RX0 yX0_takenCount yX0_takenCount, Cond.code yX0_takenCount cX0_takenCount 1 (some .int), Cond.methodLink RL 106 yX4_right, Cond.instanceMethod yX4_right, Cond.selects RX4 yX4_right yX4_right, Cond.code yX4_right cX4_right 2 (some .int), Cond.methodLink RX4 146 yX4_isMark]
def wsL_law0_r20 : List Cond := [Cond.instanceMethod yX4_isMark, Cond.selects RX4 yX4_isMark yX4_isMark, Cond.code yX4_isMark cX4_isMark 2 (some .boolean), Cond.methodLink RX4 149 yX4_drop, Cond.instanceMethod yX4_drop, Cond.selects RX4 yX4_drop yX4_drop, Cond.code yX4_drop cX4_drop 2 none, Cond.methodLink RL 107 yL_wrong, Cond.static yL_wrong, Cond.codeWith yL_wrong cL_wrong 4 (some .int) [(0, 9, 12, 13), (0, 9, 15, 22)], Cond.methodLink RL 42 yX3_wrong, Cond.instanceMethod yX3_wrong, Cond.selects RX3 yX3_wrong yX3_wrong, Cond.code yX3_wrong cX3_wrong 4 (some .int), Cond.fieldLink RX3 182 "RenameRows" "takenBack" "I", Cond.methodLink RX3 176 yX3_takeBackLast, Cond.instanceMethod yX3_takeBackLast, Cond.selects RX3 yX3_takeBackLast yX3_takeBackLast, Cond.code yX3_takeBackLast cX3_takeBackLast 3 none, Cond.methodLink RX3 254 yX2_lastPlace, Cond.instanceMethod yX2_lastPlace, Cond.selects RX2 yX2_lastPlace yX2_lastPlace, Cond.code yX2_lastPlace cX2_lastPlace 1 (some .int), Cond.methodLink RX3 257 yX2_dropLast]
def wsL_law0_r21 : List Cond := [Cond.instanceMethod yX2_dropLast, Cond.selects RX2 yX2_dropLast yX2_dropLast, Cond.code yX2_dropLast cX2_dropLast 1 none, Cond.methodLink RX3 179 yX0_releaseFrom, Cond.instanceMethod yX0_releaseFrom, Cond.selects RX0 yX0_releaseFrom yX0_releaseFrom, Cond.code yX0_releaseFrom cX0_releaseFrom 3 none, Cond.methodLink RL 109 yX4_wrong, Cond.instanceMethod yX4_wrong, Cond.selects RX4 yX4_wrong yX4_wrong, Cond.code yX4_wrong cX4_wrong 4 (some .int), Cond.fieldLink RX4 152 "RenameRowsModel" "back" "I", Cond.methodLink RL 110 yL_name, Cond.static yL_name, Cond.codeWith yL_name cL_name 4 (some .int) [(0, 9, 12, 13)], Cond.methodLink RL 45 yX3_name, Cond.instanceMethod yX3_name, Cond.selects RX3 yX3_name yX3_name, Cond.code yX3_name cX3_name 2 (some .int), Cond.methodLink RL 112 yX4_name, Cond.instanceMethod yX4_name, Cond.selects RX4 yX4_name yX4_name, Cond.code yX4_name cX4_name 2 (some .int), Cond.methodLink RL 113 yL_sure]
def wsL_law0_r22 : List Cond := [Cond.static yL_sure, Cond.codeWith yL_sure cL_sure 4 (some .int) [(0, 9, 12, 13)], Cond.methodLink RL 48 yX3_sure, Cond.instanceMethod yX3_sure, Cond.selects RX3 yX3_sure yX3_sure, Cond.code yX3_sure cX3_sure 2 (some .int), Cond.methodLink RL 115 yX4_sure, Cond.instanceMethod yX4_sure, Cond.selects RX4 yX4_sure yX4_sure, Cond.code yX4_sure cX4_sure 2 (some .int), Cond.methodLink RL 116 yL_shares, Cond.static yL_shares, Cond.codeWith yL_shares cL_shares 4 (some .int) [(0, 9, 12, 13)], Cond.methodLink RL 51 yX3_shares, Cond.instanceMethod yX3_shares, Cond.selects RX3 yX3_shares yX3_shares, Cond.code yX3_shares cX3_shares 2 (some .int), Cond.methodLink RX3 185 yX1_isName, Cond.methodLink RX3 190 yX1_sharesOf, Cond.instanceMethod yX1_sharesOf, Cond.selects RX1 yX1_sharesOf yX1_sharesOf, Cond.code yX1_sharesOf cX1_sharesOf 2 (some .int), Cond.methodLink RL 118 yX4_shares, Cond.instanceMethod yX4_shares]
def wsL_law0_r23 : List Cond := [Cond.selects RX4 yX4_shares yX4_shares, Cond.code yX4_shares cX4_shares 2 (some .int), Cond.methodLink RL 119 yL_queue, Cond.static yL_queue, Cond.codeWith yL_queue cL_queue 4 (some .int) [(0, 9, 12, 24)], Cond.methodLink RL 54 yX3_queue, Cond.instanceMethod yX3_queue, Cond.selects RX3 yX3_queue yX3_queue, Cond.code yX3_queue cX3_queue 2 (some .int), Cond.methodLink RX3 195 yX1_freeAt, Cond.instanceMethod yX1_freeAt, Cond.selects RX1 yX1_freeAt yX1_freeAt, Cond.code yX1_freeAt cX1_freeAt 2 (some .int), Cond.methodLink RL 121 yX4_queue, Cond.instanceMethod yX4_queue, Cond.selects RX4 yX4_queue yX4_queue, Cond.code yX4_queue cX4_queue 2 (some .int), Cond.methodLink RL 122 yL_row, Cond.static yL_row, Cond.codeWith yL_row cL_row 5 (some .int) [(0, 10, 13, 13), (0, 10, 17, 22), (0, 10, 21, 24)], Cond.methodLink RL 57 yX3_row, Cond.instanceMethod yX3_row, Cond.selects RX3 yX3_row yX3_row, Cond.code yX3_row cX3_row 3 (some .int)]
def wsL_law0_r24 : List Cond := [Cond.methodLink RX3 198 yX2_holdsRow, Cond.methodLink RX3 215 yX2_stateAt, Cond.instanceMethod yX2_stateAt, Cond.selects RX2 yX2_stateAt yX2_stateAt, Cond.code yX2_stateAt cX2_stateAt 2 (some .int), Cond.methodLink RL 124 yX4_row, Cond.instanceMethod yX4_row, Cond.selects RX4 yX4_row yX4_row, Cond.code yX4_row cX4_row 4 (some .int), Cond.methodLink RL 125 yX3_count, Cond.instanceMethod yX3_count, Cond.selects RX3 yX3_count yX3_count, Cond.code yX3_count cX3_count 2 (some .int), Cond.methodLink RX3 220 yX1_total, Cond.instanceMethod yX1_total, Cond.selects RX1 yX1_total yX1_total, Cond.code yX1_total cX1_total 1 (some .int), Cond.methodLink RX3 223 yX2_placeCount, Cond.instanceMethod yX2_placeCount, Cond.selects RX2 yX2_placeCount yX2_placeCount, Cond.code yX2_placeCount cX2_placeCount 1 (some .int), Cond.methodLink RL 128 yX4_count, Cond.instanceMethod yX4_count, Cond.selects RX4 yX4_count yX4_count]
def wsL_law0_r25 : List Cond := [Cond.code yX4_count cX4_count 2 (some .int)]
def wsL_law0 : List Cond := (wsL_law0_r1 ++ (wsL_law0_r2 ++ (wsL_law0_r3 ++ (wsL_law0_r4 ++ (wsL_law0_r5 ++ (wsL_law0_r6 ++ (wsL_law0_r7 ++ (wsL_law0_r8 ++ (wsL_law0_r9 ++ (wsL_law0_r10 ++ (wsL_law0_r11 ++ (wsL_law0_r12 ++ (wsL_law0_r13 ++ (wsL_law0_r14 ++ (wsL_law0_r15 ++ (wsL_law0_r16 ++ (wsL_law0_r17 ++ (wsL_law0_r18 ++ (wsL_law0_r19 ++ (wsL_law0_r20 ++ (wsL_law0_r21 ++ (wsL_law0_r22 ++ (wsL_law0_r23 ++ (wsL_law0_r24 ++ wsL_law0_r25)))))))))))))))))))))))) ++ wsX30 ++ wsX40 ++ wsX10 ++ wsX20 ++ wsX00 ++ wsJx000600 ++ ([] : List Cond)
def wsL_law : List Cond := wsL_law0 ++ (vx_atS RX3 104 "java/lang/IllegalStateException" ["java/lang/RuntimeException", "java/lang/Exception"]).filter goodWord ++ (vx_atS RX3 109 "java/lang/IllegalArgumentException" ["java/lang/RuntimeException", "java/lang/Exception"]).filter goodWord
abbrev vwCl : List vw_C := [(RJx00060, TJx00060, 6), (RX0, TX0, 3), (RX1, TX1, 5), (RX2, TX2, 10), (RX3, TX3, 9), (RX4, TX4, 29)]
end
section
theorem dX0_init_0 : decode cX0_init 0 = .ok (.aload_n 0, 1) := by decide +kernel
theorem dX0_init_1 : decode cX0_init 1 = .ok (.invokespecial 3, 3) := by decide +kernel
theorem dX0_init_4 : decode cX0_init 4 = .ok (.aload_n 0, 1) := by decide +kernel
theorem dX0_init_5 : decode cX0_init 5 = .ok (.bipush 8, 2) := by decide +kernel
theorem dX0_init_7 : decode cX0_init 7 = .ok (.newarray .int, 2) := by decide +kernel
theorem dX0_init_9 : decode cX0_init 9 = .ok (.putfield 9, 3) := by decide +kernel
theorem dX0_init_12 : decode cX0_init 12 = .ok (.aload_n 0, 1) := by decide +kernel
theorem dX0_init_13 : decode cX0_init 13 = .ok (.bipush 8, 2) := by decide +kernel
theorem dX0_init_15 : decode cX0_init 15 = .ok (.newarray .int, 2) := by decide +kernel
theorem dX0_init_17 : decode cX0_init 17 = .ok (.putfield 15, 3) := by decide +kernel
theorem dX0_init_20 : decode cX0_init 20 = .ok (.return_, 1) := by decide +kernel
theorem dX0_isMark_0 : decode cX0_isMark 0 = .ok (.iload_n 1, 1) := by decide +kernel
theorem dX0_isMark_1 : decode cX0_isMark 1 = .ok (.ifCond .lt 13, 3) := by decide +kernel
theorem dX0_isMark_4 : decode cX0_isMark 4 = .ok (.iload_n 1, 1) := by decide +kernel
theorem dX0_isMark_5 : decode cX0_isMark 5 = .ok (.bipush 8, 2) := by decide +kernel
theorem dX0_isMark_7 : decode cX0_isMark 7 = .ok (.if_icmp .ge 7, 3) := by decide +kernel
theorem dX0_isMark_10 : decode cX0_isMark 10 = .ok (.iconst 1, 1) := by decide +kernel
theorem dX0_isMark_11 : decode cX0_isMark 11 = .ok (.goto 4, 3) := by decide +kernel
theorem dX0_isMark_14 : decode cX0_isMark 14 = .ok (.iconst 0, 1) := by decide +kernel
theorem dX0_isMark_15 : decode cX0_isMark 15 = .ok (.ireturn, 1) := by decide +kernel
set_option maxRecDepth 20000 in
theorem ggX0_isFree_X0_turnOf : GoodIn wsX0_isFree wsX0_turnOf := goodIn_r _ [5, 6, 7, 8, 9, 10] (by decide +kernel) (by decide +kernel)
set_option maxRecDepth 20000 in
theorem gX0_isFree_X0_turnOf : GoodIn wsX0_isFree (wsV RX0 18 RX0 yX0_turnOf wsX0_turnOf) := goodIn_app (goodIn_of _ (by decide +kernel)) ggX0_isFree_X0_turnOf
theorem dX0_isFree_0 : decode cX0_isFree 0 = .ok (.aload_n 0, 1) := by decide +kernel
theorem dX0_isFree_1 : decode cX0_isFree 1 = .ok (.iload_n 1, 1) := by decide +kernel
theorem dX0_isFree_2 : decode cX0_isFree 2 = .ok (.invokevirtual 18, 3) := by decide +kernel
theorem dX0_isFree_5 : decode cX0_isFree 5 = .ok (.iconst (-1), 1) := by decide +kernel
theorem dX0_isFree_6 : decode cX0_isFree 6 = .ok (.if_icmp .ne 7, 3) := by decide +kernel
theorem dX0_isFree_9 : decode cX0_isFree 9 = .ok (.iconst 1, 1) := by decide +kernel
theorem dX0_isFree_10 : decode cX0_isFree 10 = .ok (.goto 4, 3) := by decide +kernel
theorem dX0_isFree_13 : decode cX0_isFree 13 = .ok (.iconst 0, 1) := by decide +kernel
theorem dX0_isFree_14 : decode cX0_isFree 14 = .ok (.ireturn, 1) := by decide +kernel
theorem dX0_takenCount_0 : decode cX0_takenCount 0 = .ok (.aload_n 0, 1) := by decide +kernel
theorem dX0_takenCount_1 : decode cX0_takenCount 1 = .ok (.getfield 22, 3) := by decide +kernel
theorem dX0_takenCount_4 : decode cX0_takenCount 4 = .ok (.ireturn, 1) := by decide +kernel
set_option maxRecDepth 20000 in
theorem ggX0_rowsBefore_X0_isMark : GoodIn wsX0_rowsBefore wsX0_isMark := goodIn_r _ [6] (by decide +kernel) (by decide +kernel)
set_option maxRecDepth 20000 in
theorem gX0_rowsBefore_X0_isMark : GoodIn wsX0_rowsBefore (wsV RX0 26 RX0 yX0_isMark wsX0_isMark) := goodIn_app (goodIn_of _ (by decide +kernel)) ggX0_rowsBefore_X0_isMark
theorem dX0_rowsBefore_0 : decode cX0_rowsBefore 0 = .ok (.aload_n 0, 1) := by decide +kernel
theorem dX0_rowsBefore_1 : decode cX0_rowsBefore 1 = .ok (.iload_n 1, 1) := by decide +kernel
theorem dX0_rowsBefore_2 : decode cX0_rowsBefore 2 = .ok (.invokevirtual 26, 3) := by decide +kernel
theorem dX0_rowsBefore_5 : decode cX0_rowsBefore 5 = .ok (.ifCond .eq 12, 3) := by decide +kernel
theorem dX0_rowsBefore_8 : decode cX0_rowsBefore 8 = .ok (.aload_n 0, 1) := by decide +kernel
theorem dX0_rowsBefore_9 : decode cX0_rowsBefore 9 = .ok (.getfield 9, 3) := by decide +kernel
theorem dX0_rowsBefore_12 : decode cX0_rowsBefore 12 = .ok (.iload_n 1, 1) := by decide +kernel
theorem dX0_rowsBefore_13 : decode cX0_rowsBefore 13 = .ok (.iaload, 1) := by decide +kernel
theorem dX0_rowsBefore_14 : decode cX0_rowsBefore 14 = .ok (.goto 4, 3) := by decide +kernel
theorem dX0_rowsBefore_17 : decode cX0_rowsBefore 17 = .ok (.iconst 0, 1) := by decide +kernel
theorem dX0_rowsBefore_18 : decode cX0_rowsBefore 18 = .ok (.ireturn, 1) := by decide +kernel
theorem dX0_oldest_0 : decode cX0_oldest 0 = .ok (.aload_n 0, 1) := by decide +kernel
theorem dX0_oldest_1 : decode cX0_oldest 1 = .ok (.getfield 22, 3) := by decide +kernel
theorem dX0_oldest_4 : decode cX0_oldest 4 = .ok (.ifCond .ne 7, 3) := by decide +kernel
theorem dX0_oldest_7 : decode cX0_oldest 7 = .ok (.iconst (-1), 1) := by decide +kernel
theorem dX0_oldest_8 : decode cX0_oldest 8 = .ok (.goto 9, 3) := by decide +kernel
theorem dX0_oldest_11 : decode cX0_oldest 11 = .ok (.aload_n 0, 1) := by decide +kernel
theorem dX0_oldest_12 : decode cX0_oldest 12 = .ok (.getfield 15, 3) := by decide +kernel
theorem dX0_oldest_15 : decode cX0_oldest 15 = .ok (.iconst 0, 1) := by decide +kernel
theorem dX0_oldest_16 : decode cX0_oldest 16 = .ok (.iaload, 1) := by decide +kernel
theorem dX0_oldest_17 : decode cX0_oldest 17 = .ok (.ireturn, 1) := by decide +kernel
set_option maxRecDepth 20000 in
theorem ggX0_takeLowest_X0_isFree : GoodIn wsX0_takeLowest wsX0_isFree := goodIn_r _ [8, 9, 10, 11, 7, 12, 1, 3, 13, 14, 15] (by decide +kernel) (by decide +kernel)
set_option maxRecDepth 20000 in
theorem gX0_takeLowest_X0_isFree : GoodIn wsX0_takeLowest (wsV RX0 30 RX0 yX0_isFree wsX0_isFree) := goodIn_app (goodIn_of _ (by decide +kernel)) ggX0_takeLowest_X0_isFree
theorem dX0_takeLowest_0 : decode cX0_takeLowest 0 = .ok (.iconst 0, 1) := by decide +kernel
theorem dX0_takeLowest_1 : decode cX0_takeLowest 1 = .ok (.istore_n 2, 1) := by decide +kernel
theorem dX0_takeLowest_2 : decode cX0_takeLowest 2 = .ok (.iload_n 2, 1) := by decide +kernel
theorem dX0_takeLowest_3 : decode cX0_takeLowest 3 = .ok (.bipush 8, 2) := by decide +kernel
theorem dX0_takeLowest_5 : decode cX0_takeLowest 5 = .ok (.if_icmp .ge 55, 3) := by decide +kernel
theorem dX0_takeLowest_8 : decode cX0_takeLowest 8 = .ok (.aload_n 0, 1) := by decide +kernel
theorem dX0_takeLowest_9 : decode cX0_takeLowest 9 = .ok (.getfield 22, 3) := by decide +kernel
theorem dX0_takeLowest_12 : decode cX0_takeLowest 12 = .ok (.bipush 8, 2) := by decide +kernel
theorem dX0_takeLowest_14 : decode cX0_takeLowest 14 = .ok (.if_icmp .ge 46, 3) := by decide +kernel
theorem dX0_takeLowest_17 : decode cX0_takeLowest 17 = .ok (.aload_n 0, 1) := by decide +kernel
theorem dX0_takeLowest_18 : decode cX0_takeLowest 18 = .ok (.iload_n 2, 1) := by decide +kernel
theorem dX0_takeLowest_19 : decode cX0_takeLowest 19 = .ok (.invokevirtual 30, 3) := by decide +kernel
theorem dX0_takeLowest_22 : decode cX0_takeLowest 22 = .ok (.ifCond .eq 32, 3) := by decide +kernel
theorem dX0_takeLowest_25 : decode cX0_takeLowest 25 = .ok (.aload_n 0, 1) := by decide +kernel
theorem dX0_takeLowest_26 : decode cX0_takeLowest 26 = .ok (.getfield 9, 3) := by decide +kernel
theorem dX0_takeLowest_29 : decode cX0_takeLowest 29 = .ok (.iload_n 2, 1) := by decide +kernel
theorem dX0_takeLowest_30 : decode cX0_takeLowest 30 = .ok (.iload_n 1, 1) := by decide +kernel
theorem dX0_takeLowest_31 : decode cX0_takeLowest 31 = .ok (.iastore, 1) := by decide +kernel
theorem dX0_takeLowest_32 : decode cX0_takeLowest 32 = .ok (.aload_n 0, 1) := by decide +kernel
theorem dX0_takeLowest_33 : decode cX0_takeLowest 33 = .ok (.getfield 15, 3) := by decide +kernel
theorem dX0_takeLowest_36 : decode cX0_takeLowest 36 = .ok (.aload_n 0, 1) := by decide +kernel
theorem dX0_takeLowest_37 : decode cX0_takeLowest 37 = .ok (.getfield 22, 3) := by decide +kernel
theorem dX0_takeLowest_40 : decode cX0_takeLowest 40 = .ok (.iload_n 2, 1) := by decide +kernel
theorem dX0_takeLowest_41 : decode cX0_takeLowest 41 = .ok (.iastore, 1) := by decide +kernel
theorem dX0_takeLowest_42 : decode cX0_takeLowest 42 = .ok (.aload_n 0, 1) := by decide +kernel
theorem dX0_takeLowest_43 : decode cX0_takeLowest 43 = .ok (.dup, 1) := by decide +kernel
theorem dX0_takeLowest_44 : decode cX0_takeLowest 44 = .ok (.getfield 22, 3) := by decide +kernel
theorem dX0_takeLowest_47 : decode cX0_takeLowest 47 = .ok (.iconst 1, 1) := by decide +kernel
theorem dX0_takeLowest_48 : decode cX0_takeLowest 48 = .ok (.iadd, 1) := by decide +kernel
theorem dX0_takeLowest_49 : decode cX0_takeLowest 49 = .ok (.putfield 22, 3) := by decide +kernel
theorem dX0_takeLowest_52 : decode cX0_takeLowest 52 = .ok (.iload_n 2, 1) := by decide +kernel
theorem dX0_takeLowest_53 : decode cX0_takeLowest 53 = .ok (.ireturn, 1) := by decide +kernel
theorem dX0_takeLowest_54 : decode cX0_takeLowest 54 = .ok (.iinc 2 1, 3) := by decide +kernel
theorem dX0_takeLowest_57 : decode cX0_takeLowest 57 = .ok (.goto (-55), 3) := by decide +kernel
theorem dX0_takeLowest_60 : decode cX0_takeLowest 60 = .ok (.iconst (-1), 1) := by decide +kernel
theorem dX0_takeLowest_61 : decode cX0_takeLowest 61 = .ok (.ireturn, 1) := by decide +kernel
set_option maxRecDepth 20000 in
theorem ggX0_release_X0_turnOf : GoodIn wsX0_release wsX0_turnOf := goodIn_r _ [7, 1, 2, 8, 9, 10] (by decide +kernel) (by decide +kernel)
set_option maxRecDepth 20000 in
theorem gX0_release_X0_turnOf : GoodIn wsX0_release (wsV RX0 18 RX0 yX0_turnOf wsX0_turnOf) := goodIn_app (goodIn_of _ (by decide +kernel)) ggX0_release_X0_turnOf
theorem dX0_release_0 : decode cX0_release 0 = .ok (.aload_n 0, 1) := by decide +kernel
theorem dX0_release_1 : decode cX0_release 1 = .ok (.iload_n 1, 1) := by decide +kernel
theorem dX0_release_2 : decode cX0_release 2 = .ok (.invokevirtual 18, 3) := by decide +kernel
theorem dX0_release_5 : decode cX0_release 5 = .ok (.istore_n 2, 1) := by decide +kernel
theorem dX0_release_6 : decode cX0_release 6 = .ok (.iload_n 2, 1) := by decide +kernel
theorem dX0_release_7 : decode cX0_release 7 = .ok (.iconst (-1), 1) := by decide +kernel
theorem dX0_release_8 : decode cX0_release 8 = .ok (.if_icmp .ne 4, 3) := by decide +kernel
theorem dX0_release_11 : decode cX0_release 11 = .ok (.return_, 1) := by decide +kernel
theorem dX0_release_12 : decode cX0_release 12 = .ok (.iload_n 2, 1) := by decide +kernel
theorem dX0_release_13 : decode cX0_release 13 = .ok (.istore_n 3, 1) := by decide +kernel
theorem dX0_release_14 : decode cX0_release 14 = .ok (.iload_n 3, 1) := by decide +kernel
theorem dX0_release_15 : decode cX0_release 15 = .ok (.iconst 1, 1) := by decide +kernel
theorem dX0_release_16 : decode cX0_release 16 = .ok (.iadd, 1) := by decide +kernel
theorem dX0_release_17 : decode cX0_release 17 = .ok (.aload_n 0, 1) := by decide +kernel
theorem dX0_release_18 : decode cX0_release 18 = .ok (.getfield 22, 3) := by decide +kernel
theorem dX0_release_21 : decode cX0_release 21 = .ok (.if_icmp .ge 23, 3) := by decide +kernel
theorem dX0_release_24 : decode cX0_release 24 = .ok (.aload_n 0, 1) := by decide +kernel
theorem dX0_release_25 : decode cX0_release 25 = .ok (.getfield 15, 3) := by decide +kernel
theorem dX0_release_28 : decode cX0_release 28 = .ok (.iload_n 3, 1) := by decide +kernel
theorem dX0_release_29 : decode cX0_release 29 = .ok (.aload_n 0, 1) := by decide +kernel
theorem dX0_release_30 : decode cX0_release 30 = .ok (.getfield 15, 3) := by decide +kernel
theorem dX0_release_33 : decode cX0_release 33 = .ok (.iload_n 3, 1) := by decide +kernel
theorem dX0_release_34 : decode cX0_release 34 = .ok (.iconst 1, 1) := by decide +kernel
theorem dX0_release_35 : decode cX0_release 35 = .ok (.iadd, 1) := by decide +kernel
theorem dX0_release_36 : decode cX0_release 36 = .ok (.iaload, 1) := by decide +kernel
theorem dX0_release_37 : decode cX0_release 37 = .ok (.iastore, 1) := by decide +kernel
theorem dX0_release_38 : decode cX0_release 38 = .ok (.iinc 3 1, 3) := by decide +kernel
theorem dX0_release_41 : decode cX0_release 41 = .ok (.goto (-27), 3) := by decide +kernel
theorem dX0_release_44 : decode cX0_release 44 = .ok (.aload_n 0, 1) := by decide +kernel
theorem dX0_release_45 : decode cX0_release 45 = .ok (.dup, 1) := by decide +kernel
theorem dX0_release_46 : decode cX0_release 46 = .ok (.getfield 22, 3) := by decide +kernel
theorem dX0_release_49 : decode cX0_release 49 = .ok (.iconst 1, 1) := by decide +kernel
theorem dX0_release_50 : decode cX0_release 50 = .ok (.isub, 1) := by decide +kernel
theorem dX0_release_51 : decode cX0_release 51 = .ok (.putfield 22, 3) := by decide +kernel
theorem dX0_release_54 : decode cX0_release 54 = .ok (.return_, 1) := by decide +kernel
set_option maxRecDepth 20000 in
theorem ggX0_releaseFrom_X0_turnOf : GoodIn wsX0_releaseFrom wsX0_turnOf := goodIn_r _ [6, 1, 7, 8, 9, 10] (by decide +kernel) (by decide +kernel)
set_option maxRecDepth 20000 in
theorem gX0_releaseFrom_X0_turnOf : GoodIn wsX0_releaseFrom (wsV RX0 18 RX0 yX0_turnOf wsX0_turnOf) := goodIn_app (goodIn_of _ (by decide +kernel)) ggX0_releaseFrom_X0_turnOf
theorem dX0_releaseFrom_0 : decode cX0_releaseFrom 0 = .ok (.aload_n 0, 1) := by decide +kernel
theorem dX0_releaseFrom_1 : decode cX0_releaseFrom 1 = .ok (.iload_n 1, 1) := by decide +kernel
theorem dX0_releaseFrom_2 : decode cX0_releaseFrom 2 = .ok (.invokevirtual 18, 3) := by decide +kernel
theorem dX0_releaseFrom_5 : decode cX0_releaseFrom 5 = .ok (.istore_n 2, 1) := by decide +kernel
theorem dX0_releaseFrom_6 : decode cX0_releaseFrom 6 = .ok (.iload_n 2, 1) := by decide +kernel
theorem dX0_releaseFrom_7 : decode cX0_releaseFrom 7 = .ok (.iconst (-1), 1) := by decide +kernel
theorem dX0_releaseFrom_8 : decode cX0_releaseFrom 8 = .ok (.if_icmp .eq 8, 3) := by decide +kernel
theorem dX0_releaseFrom_11 : decode cX0_releaseFrom 11 = .ok (.aload_n 0, 1) := by decide +kernel
theorem dX0_releaseFrom_12 : decode cX0_releaseFrom 12 = .ok (.iload_n 2, 1) := by decide +kernel
theorem dX0_releaseFrom_13 : decode cX0_releaseFrom 13 = .ok (.putfield 22, 3) := by decide +kernel
theorem dX0_releaseFrom_16 : decode cX0_releaseFrom 16 = .ok (.return_, 1) := by decide +kernel
theorem dX0_turnOf_0 : decode cX0_turnOf 0 = .ok (.iconst 0, 1) := by decide +kernel
theorem dX0_turnOf_1 : decode cX0_turnOf 1 = .ok (.istore_n 2, 1) := by decide +kernel
theorem dX0_turnOf_2 : decode cX0_turnOf 2 = .ok (.iload_n 2, 1) := by decide +kernel
theorem dX0_turnOf_3 : decode cX0_turnOf 3 = .ok (.aload_n 0, 1) := by decide +kernel
theorem dX0_turnOf_4 : decode cX0_turnOf 4 = .ok (.getfield 22, 3) := by decide +kernel
theorem dX0_turnOf_7 : decode cX0_turnOf 7 = .ok (.if_icmp .ge 21, 3) := by decide +kernel
theorem dX0_turnOf_10 : decode cX0_turnOf 10 = .ok (.aload_n 0, 1) := by decide +kernel
theorem dX0_turnOf_11 : decode cX0_turnOf 11 = .ok (.getfield 15, 3) := by decide +kernel
theorem dX0_turnOf_14 : decode cX0_turnOf 14 = .ok (.iload_n 2, 1) := by decide +kernel
theorem dX0_turnOf_15 : decode cX0_turnOf 15 = .ok (.iaload, 1) := by decide +kernel
theorem dX0_turnOf_16 : decode cX0_turnOf 16 = .ok (.iload_n 1, 1) := by decide +kernel
theorem dX0_turnOf_17 : decode cX0_turnOf 17 = .ok (.if_icmp .ne 5, 3) := by decide +kernel
theorem dX0_turnOf_20 : decode cX0_turnOf 20 = .ok (.iload_n 2, 1) := by decide +kernel
theorem dX0_turnOf_21 : decode cX0_turnOf 21 = .ok (.ireturn, 1) := by decide +kernel
theorem dX0_turnOf_22 : decode cX0_turnOf 22 = .ok (.iinc 2 1, 3) := by decide +kernel
theorem dX0_turnOf_25 : decode cX0_turnOf 25 = .ok (.goto (-23), 3) := by decide +kernel
theorem dX0_turnOf_28 : decode cX0_turnOf 28 = .ok (.iconst (-1), 1) := by decide +kernel
theorem dX0_turnOf_29 : decode cX0_turnOf 29 = .ok (.ireturn, 1) := by decide +kernel
end
section
theorem dX1_init_0 : decode cX1_init 0 = .ok (.aload_n 0, 1) := by decide +kernel
theorem dX1_init_1 : decode cX1_init 1 = .ok (.invokespecial 3, 3) := by decide +kernel
theorem dX1_init_4 : decode cX1_init 4 = .ok (.iload_n 1, 1) := by decide +kernel
theorem dX1_init_5 : decode cX1_init 5 = .ok (.iload_n 2, 1) := by decide +kernel
theorem dX1_init_6 : decode cX1_init 6 = .ok (.iadd, 1) := by decide +kernel
theorem dX1_init_7 : decode cX1_init 7 = .ok (.istore_n 3, 1) := by decide +kernel
theorem dX1_init_8 : decode cX1_init 8 = .ok (.aload_n 0, 1) := by decide +kernel
theorem dX1_init_9 : decode cX1_init 9 = .ok (.iload_n 3, 1) := by decide +kernel
theorem dX1_init_10 : decode cX1_init 10 = .ok (.newarray .int, 2) := by decide +kernel
theorem dX1_init_12 : decode cX1_init 12 = .ok (.putfield 9, 3) := by decide +kernel
theorem dX1_init_15 : decode cX1_init 15 = .ok (.aload_n 0, 1) := by decide +kernel
theorem dX1_init_16 : decode cX1_init 16 = .ok (.iload_n 3, 1) := by decide +kernel
theorem dX1_init_17 : decode cX1_init 17 = .ok (.newarray .boolean, 2) := by decide +kernel
theorem dX1_init_19 : decode cX1_init 19 = .ok (.putfield 15, 3) := by decide +kernel
theorem dX1_init_22 : decode cX1_init 22 = .ok (.aload_n 0, 1) := by decide +kernel
theorem dX1_init_23 : decode cX1_init 23 = .ok (.iload_n 3, 1) := by decide +kernel
theorem dX1_init_24 : decode cX1_init 24 = .ok (.newarray .int, 2) := by decide +kernel
theorem dX1_init_26 : decode cX1_init 26 = .ok (.putfield 19, 3) := by decide +kernel
theorem dX1_init_29 : decode cX1_init 29 = .ok (.iconst 0, 1) := by decide +kernel
theorem dX1_init_30 : decode cX1_init 30 = .ok (.istore 4, 2) := by decide +kernel
theorem dX1_init_32 : decode cX1_init 32 = .ok (.iload 4, 2) := by decide +kernel
theorem dX1_init_34 : decode cX1_init 34 = .ok (.iload_n 3, 1) := by decide +kernel
theorem dX1_init_35 : decode cX1_init 35 = .ok (.if_icmp .ge 55, 3) := by decide +kernel
theorem dX1_init_38 : decode cX1_init 38 = .ok (.iload 4, 2) := by decide +kernel
theorem dX1_init_40 : decode cX1_init 40 = .ok (.iload_n 1, 1) := by decide +kernel
theorem dX1_init_41 : decode cX1_init 41 = .ok (.if_icmp .ge 22, 3) := by decide +kernel
theorem dX1_init_44 : decode cX1_init 44 = .ok (.aload_n 0, 1) := by decide +kernel
theorem dX1_init_45 : decode cX1_init 45 = .ok (.getfield 9, 3) := by decide +kernel
theorem dX1_init_48 : decode cX1_init 48 = .ok (.iload 4, 2) := by decide +kernel
theorem dX1_init_50 : decode cX1_init 50 = .ok (.iconst 1, 1) := by decide +kernel
theorem dX1_init_51 : decode cX1_init 51 = .ok (.iastore, 1) := by decide +kernel
theorem dX1_init_52 : decode cX1_init 52 = .ok (.aload_n 0, 1) := by decide +kernel
theorem dX1_init_53 : decode cX1_init 53 = .ok (.getfield 15, 3) := by decide +kernel
theorem dX1_init_56 : decode cX1_init 56 = .ok (.iload 4, 2) := by decide +kernel
theorem dX1_init_58 : decode cX1_init 58 = .ok (.iconst 1, 1) := by decide +kernel
theorem dX1_init_59 : decode cX1_init 59 = .ok (.bastore, 1) := by decide +kernel
theorem dX1_init_60 : decode cX1_init 60 = .ok (.goto 24, 3) := by decide +kernel
theorem dX1_init_63 : decode cX1_init 63 = .ok (.aload_n 0, 1) := by decide +kernel
theorem dX1_init_64 : decode cX1_init 64 = .ok (.getfield 19, 3) := by decide +kernel
theorem dX1_init_67 : decode cX1_init 67 = .ok (.aload_n 0, 1) := by decide +kernel
theorem dX1_init_68 : decode cX1_init 68 = .ok (.getfield 22, 3) := by decide +kernel
theorem dX1_init_71 : decode cX1_init 71 = .ok (.iload 4, 2) := by decide +kernel
theorem dX1_init_73 : decode cX1_init 73 = .ok (.iastore, 1) := by decide +kernel
theorem dX1_init_74 : decode cX1_init 74 = .ok (.aload_n 0, 1) := by decide +kernel
theorem dX1_init_75 : decode cX1_init 75 = .ok (.dup, 1) := by decide +kernel
theorem dX1_init_76 : decode cX1_init 76 = .ok (.getfield 22, 3) := by decide +kernel
theorem dX1_init_79 : decode cX1_init 79 = .ok (.iconst 1, 1) := by decide +kernel
theorem dX1_init_80 : decode cX1_init 80 = .ok (.iadd, 1) := by decide +kernel
theorem dX1_init_81 : decode cX1_init 81 = .ok (.putfield 22, 3) := by decide +kernel
theorem dX1_init_84 : decode cX1_init 84 = .ok (.iinc 4 1, 3) := by decide +kernel
theorem dX1_init_87 : decode cX1_init 87 = .ok (.goto (-55), 3) := by decide +kernel
theorem dX1_init_90 : decode cX1_init 90 = .ok (.return_, 1) := by decide +kernel
theorem dX1_total_0 : decode cX1_total 0 = .ok (.aload_n 0, 1) := by decide +kernel
theorem dX1_total_1 : decode cX1_total 1 = .ok (.getfield 9, 3) := by decide +kernel
theorem dX1_total_4 : decode cX1_total 4 = .ok (.arraylength, 1) := by decide +kernel
theorem dX1_total_5 : decode cX1_total 5 = .ok (.ireturn, 1) := by decide +kernel
theorem dX1_isName_0 : decode cX1_isName 0 = .ok (.iload_n 1, 1) := by decide +kernel
theorem dX1_isName_1 : decode cX1_isName 1 = .ok (.ifCond .lt 16, 3) := by decide +kernel
theorem dX1_isName_4 : decode cX1_isName 4 = .ok (.iload_n 1, 1) := by decide +kernel
theorem dX1_isName_5 : decode cX1_isName 5 = .ok (.aload_n 0, 1) := by decide +kernel
theorem dX1_isName_6 : decode cX1_isName 6 = .ok (.getfield 9, 3) := by decide +kernel
theorem dX1_isName_9 : decode cX1_isName 9 = .ok (.arraylength, 1) := by decide +kernel
theorem dX1_isName_10 : decode cX1_isName 10 = .ok (.if_icmp .ge 7, 3) := by decide +kernel
theorem dX1_isName_13 : decode cX1_isName 13 = .ok (.iconst 1, 1) := by decide +kernel
theorem dX1_isName_14 : decode cX1_isName 14 = .ok (.goto 4, 3) := by decide +kernel
theorem dX1_isName_17 : decode cX1_isName 17 = .ok (.iconst 0, 1) := by decide +kernel
theorem dX1_isName_18 : decode cX1_isName 18 = .ok (.ireturn, 1) := by decide +kernel
set_option maxRecDepth 20000 in
theorem ggX1_sharesOf_X1_isName : GoodIn wsX1_sharesOf wsX1_isName := goodIn_r _ [6, 1, 7, 8, 9, 10, 11] (by decide +kernel) (by decide +kernel)
set_option maxRecDepth 20000 in
theorem gX1_sharesOf_X1_isName : GoodIn wsX1_sharesOf (wsV RX1 26 RX1 yX1_isName wsX1_isName) := goodIn_app (goodIn_of _ (by decide +kernel)) ggX1_sharesOf_X1_isName
theorem dX1_sharesOf_0 : decode cX1_sharesOf 0 = .ok (.aload_n 0, 1) := by decide +kernel
theorem dX1_sharesOf_1 : decode cX1_sharesOf 1 = .ok (.iload_n 1, 1) := by decide +kernel
theorem dX1_sharesOf_2 : decode cX1_sharesOf 2 = .ok (.invokevirtual 26, 3) := by decide +kernel
theorem dX1_sharesOf_5 : decode cX1_sharesOf 5 = .ok (.ifCond .eq 12, 3) := by decide +kernel
theorem dX1_sharesOf_8 : decode cX1_sharesOf 8 = .ok (.aload_n 0, 1) := by decide +kernel
theorem dX1_sharesOf_9 : decode cX1_sharesOf 9 = .ok (.getfield 9, 3) := by decide +kernel
theorem dX1_sharesOf_12 : decode cX1_sharesOf 12 = .ok (.iload_n 1, 1) := by decide +kernel
theorem dX1_sharesOf_13 : decode cX1_sharesOf 13 = .ok (.iaload, 1) := by decide +kernel
theorem dX1_sharesOf_14 : decode cX1_sharesOf 14 = .ok (.goto 4, 3) := by decide +kernel
theorem dX1_sharesOf_17 : decode cX1_sharesOf 17 = .ok (.iconst 0, 1) := by decide +kernel
theorem dX1_sharesOf_18 : decode cX1_sharesOf 18 = .ok (.ireturn, 1) := by decide +kernel
theorem dX1_freeCount_0 : decode cX1_freeCount 0 = .ok (.aload_n 0, 1) := by decide +kernel
theorem dX1_freeCount_1 : decode cX1_freeCount 1 = .ok (.getfield 22, 3) := by decide +kernel
theorem dX1_freeCount_4 : decode cX1_freeCount 4 = .ok (.ireturn, 1) := by decide +kernel
set_option maxRecDepth 20000 in
theorem ggX1_freeAt_X1_slotOf : GoodIn wsX1_freeAt wsX1_slotOf := goodIn_r _ [7, 8, 2, 9, 10, 11, 12, 13] (by decide +kernel) (by decide +kernel)
set_option maxRecDepth 20000 in
theorem gX1_freeAt_X1_slotOf : GoodIn wsX1_freeAt (wsV RX1 30 RX1 yX1_slotOf wsX1_slotOf) := goodIn_app (goodIn_of _ (by decide +kernel)) ggX1_freeAt_X1_slotOf
theorem dX1_freeAt_0 : decode cX1_freeAt 0 = .ok (.iload_n 1, 1) := by decide +kernel
theorem dX1_freeAt_1 : decode cX1_freeAt 1 = .ok (.ifCond .lt 24, 3) := by decide +kernel
theorem dX1_freeAt_4 : decode cX1_freeAt 4 = .ok (.iload_n 1, 1) := by decide +kernel
theorem dX1_freeAt_5 : decode cX1_freeAt 5 = .ok (.aload_n 0, 1) := by decide +kernel
theorem dX1_freeAt_6 : decode cX1_freeAt 6 = .ok (.getfield 22, 3) := by decide +kernel
theorem dX1_freeAt_9 : decode cX1_freeAt 9 = .ok (.if_icmp .ge 16, 3) := by decide +kernel
theorem dX1_freeAt_12 : decode cX1_freeAt 12 = .ok (.aload_n 0, 1) := by decide +kernel
theorem dX1_freeAt_13 : decode cX1_freeAt 13 = .ok (.getfield 19, 3) := by decide +kernel
theorem dX1_freeAt_16 : decode cX1_freeAt 16 = .ok (.aload_n 0, 1) := by decide +kernel
theorem dX1_freeAt_17 : decode cX1_freeAt 17 = .ok (.iload_n 1, 1) := by decide +kernel
theorem dX1_freeAt_18 : decode cX1_freeAt 18 = .ok (.invokevirtual 30, 3) := by decide +kernel
theorem dX1_freeAt_21 : decode cX1_freeAt 21 = .ok (.iaload, 1) := by decide +kernel
theorem dX1_freeAt_22 : decode cX1_freeAt 22 = .ok (.goto 4, 3) := by decide +kernel
theorem dX1_freeAt_25 : decode cX1_freeAt 25 = .ok (.iconst (-1), 1) := by decide +kernel
theorem dX1_freeAt_26 : decode cX1_freeAt 26 = .ok (.ireturn, 1) := by decide +kernel
set_option maxRecDepth 20000 in
theorem ggX1_takeFirstFree_X1_slotOf : GoodIn wsX1_takeFirstFree wsX1_slotOf := goodIn_r _ [10, 3, 2, 11, 12, 13, 14, 15] (by decide +kernel) (by decide +kernel)
set_option maxRecDepth 20000 in
theorem gX1_takeFirstFree_X1_slotOf : GoodIn wsX1_takeFirstFree (wsV RX1 30 RX1 yX1_slotOf wsX1_slotOf) := goodIn_app (goodIn_of _ (by decide +kernel)) ggX1_takeFirstFree_X1_slotOf
theorem dX1_takeFirstFree_0 : decode cX1_takeFirstFree 0 = .ok (.aload_n 0, 1) := by decide +kernel
theorem dX1_takeFirstFree_1 : decode cX1_takeFirstFree 1 = .ok (.getfield 22, 3) := by decide +kernel
theorem dX1_takeFirstFree_4 : decode cX1_takeFirstFree 4 = .ok (.ifCond .ne 5, 3) := by decide +kernel
theorem dX1_takeFirstFree_7 : decode cX1_takeFirstFree 7 = .ok (.iconst (-1), 1) := by decide +kernel
theorem dX1_takeFirstFree_8 : decode cX1_takeFirstFree 8 = .ok (.ireturn, 1) := by decide +kernel
theorem dX1_takeFirstFree_9 : decode cX1_takeFirstFree 9 = .ok (.aload_n 0, 1) := by decide +kernel
theorem dX1_takeFirstFree_10 : decode cX1_takeFirstFree 10 = .ok (.getfield 19, 3) := by decide +kernel
theorem dX1_takeFirstFree_13 : decode cX1_takeFirstFree 13 = .ok (.aload_n 0, 1) := by decide +kernel
theorem dX1_takeFirstFree_14 : decode cX1_takeFirstFree 14 = .ok (.getfield 34, 3) := by decide +kernel
theorem dX1_takeFirstFree_17 : decode cX1_takeFirstFree 17 = .ok (.iaload, 1) := by decide +kernel
theorem dX1_takeFirstFree_18 : decode cX1_takeFirstFree 18 = .ok (.istore_n 1, 1) := by decide +kernel
theorem dX1_takeFirstFree_19 : decode cX1_takeFirstFree 19 = .ok (.aload_n 0, 1) := by decide +kernel
theorem dX1_takeFirstFree_20 : decode cX1_takeFirstFree 20 = .ok (.aload_n 0, 1) := by decide +kernel
theorem dX1_takeFirstFree_21 : decode cX1_takeFirstFree 21 = .ok (.iconst 1, 1) := by decide +kernel
theorem dX1_takeFirstFree_22 : decode cX1_takeFirstFree 22 = .ok (.invokevirtual 30, 3) := by decide +kernel
theorem dX1_takeFirstFree_25 : decode cX1_takeFirstFree 25 = .ok (.putfield 34, 3) := by decide +kernel
theorem dX1_takeFirstFree_28 : decode cX1_takeFirstFree 28 = .ok (.aload_n 0, 1) := by decide +kernel
theorem dX1_takeFirstFree_29 : decode cX1_takeFirstFree 29 = .ok (.dup, 1) := by decide +kernel
theorem dX1_takeFirstFree_30 : decode cX1_takeFirstFree 30 = .ok (.getfield 22, 3) := by decide +kernel
theorem dX1_takeFirstFree_33 : decode cX1_takeFirstFree 33 = .ok (.iconst 1, 1) := by decide +kernel
theorem dX1_takeFirstFree_34 : decode cX1_takeFirstFree 34 = .ok (.isub, 1) := by decide +kernel
theorem dX1_takeFirstFree_35 : decode cX1_takeFirstFree 35 = .ok (.putfield 22, 3) := by decide +kernel
theorem dX1_takeFirstFree_38 : decode cX1_takeFirstFree 38 = .ok (.aload_n 0, 1) := by decide +kernel
theorem dX1_takeFirstFree_39 : decode cX1_takeFirstFree 39 = .ok (.getfield 9, 3) := by decide +kernel
theorem dX1_takeFirstFree_42 : decode cX1_takeFirstFree 42 = .ok (.iload_n 1, 1) := by decide +kernel
theorem dX1_takeFirstFree_43 : decode cX1_takeFirstFree 43 = .ok (.iconst 1, 1) := by decide +kernel
theorem dX1_takeFirstFree_44 : decode cX1_takeFirstFree 44 = .ok (.iastore, 1) := by decide +kernel
theorem dX1_takeFirstFree_45 : decode cX1_takeFirstFree 45 = .ok (.aload_n 0, 1) := by decide +kernel
theorem dX1_takeFirstFree_46 : decode cX1_takeFirstFree 46 = .ok (.getfield 15, 3) := by decide +kernel
theorem dX1_takeFirstFree_49 : decode cX1_takeFirstFree 49 = .ok (.iload_n 1, 1) := by decide +kernel
theorem dX1_takeFirstFree_50 : decode cX1_takeFirstFree 50 = .ok (.iconst 0, 1) := by decide +kernel
theorem dX1_takeFirstFree_51 : decode cX1_takeFirstFree 51 = .ok (.bastore, 1) := by decide +kernel
theorem dX1_takeFirstFree_52 : decode cX1_takeFirstFree 52 = .ok (.iload_n 1, 1) := by decide +kernel
theorem dX1_takeFirstFree_53 : decode cX1_takeFirstFree 53 = .ok (.ireturn, 1) := by decide +kernel
set_option maxRecDepth 20000 in
theorem ggX1_addShare_X1_isName : GoodIn wsX1_addShare wsX1_isName := goodIn_r _ [6, 1, 7, 8, 9, 10, 11] (by decide +kernel) (by decide +kernel)
set_option maxRecDepth 20000 in
theorem gX1_addShare_X1_isName : GoodIn wsX1_addShare (wsV RX1 26 RX1 yX1_isName wsX1_isName) := goodIn_app (goodIn_of _ (by decide +kernel)) ggX1_addShare_X1_isName
theorem dX1_addShare_0 : decode cX1_addShare 0 = .ok (.aload_n 0, 1) := by decide +kernel
theorem dX1_addShare_1 : decode cX1_addShare 1 = .ok (.iload_n 1, 1) := by decide +kernel
theorem dX1_addShare_2 : decode cX1_addShare 2 = .ok (.invokevirtual 26, 3) := by decide +kernel
theorem dX1_addShare_5 : decode cX1_addShare 5 = .ok (.ifCond .eq 13, 3) := by decide +kernel
theorem dX1_addShare_8 : decode cX1_addShare 8 = .ok (.aload_n 0, 1) := by decide +kernel
theorem dX1_addShare_9 : decode cX1_addShare 9 = .ok (.getfield 9, 3) := by decide +kernel
theorem dX1_addShare_12 : decode cX1_addShare 12 = .ok (.iload_n 1, 1) := by decide +kernel
theorem dX1_addShare_13 : decode cX1_addShare 13 = .ok (.dup2, 1) := by decide +kernel
theorem dX1_addShare_14 : decode cX1_addShare 14 = .ok (.iaload, 1) := by decide +kernel
theorem dX1_addShare_15 : decode cX1_addShare 15 = .ok (.iconst 1, 1) := by decide +kernel
theorem dX1_addShare_16 : decode cX1_addShare 16 = .ok (.iadd, 1) := by decide +kernel
theorem dX1_addShare_17 : decode cX1_addShare 17 = .ok (.iastore, 1) := by decide +kernel
theorem dX1_addShare_18 : decode cX1_addShare 18 = .ok (.return_, 1) := by decide +kernel
set_option maxRecDepth 20000 in
theorem ggX1_giveBack_X1_isName : GoodIn wsX1_giveBack wsX1_isName := goodIn_r _ [8, 1, 14, 15, 16, 17, 18] (by decide +kernel) (by decide +kernel)
set_option maxRecDepth 20000 in
theorem gX1_giveBack_X1_isName : GoodIn wsX1_giveBack (wsV RX1 26 RX1 yX1_isName wsX1_isName) := goodIn_app (goodIn_of _ (by decide +kernel)) ggX1_giveBack_X1_isName
set_option maxRecDepth 20000 in
theorem ggX1_giveBack_X1_slotOf : GoodIn wsX1_giveBack wsX1_slotOf := goodIn_r _ [12, 13, 2, 14, 15, 16, 17, 18] (by decide +kernel) (by decide +kernel)
set_option maxRecDepth 20000 in
theorem gX1_giveBack_X1_slotOf : GoodIn wsX1_giveBack (wsV RX1 30 RX1 yX1_slotOf wsX1_slotOf) := goodIn_app (goodIn_of _ (by decide +kernel)) ggX1_giveBack_X1_slotOf
theorem dX1_giveBack_0 : decode cX1_giveBack 0 = .ok (.aload_n 0, 1) := by decide +kernel
theorem dX1_giveBack_1 : decode cX1_giveBack 1 = .ok (.iload_n 1, 1) := by decide +kernel
theorem dX1_giveBack_2 : decode cX1_giveBack 2 = .ok (.invokevirtual 26, 3) := by decide +kernel
theorem dX1_giveBack_5 : decode cX1_giveBack 5 = .ok (.ifCond .eq 12, 3) := by decide +kernel
theorem dX1_giveBack_8 : decode cX1_giveBack 8 = .ok (.aload_n 0, 1) := by decide +kernel
theorem dX1_giveBack_9 : decode cX1_giveBack 9 = .ok (.getfield 9, 3) := by decide +kernel
theorem dX1_giveBack_12 : decode cX1_giveBack 12 = .ok (.iload_n 1, 1) := by decide +kernel
theorem dX1_giveBack_13 : decode cX1_giveBack 13 = .ok (.iaload, 1) := by decide +kernel
theorem dX1_giveBack_14 : decode cX1_giveBack 14 = .ok (.ifCond .ne 4, 3) := by decide +kernel
theorem dX1_giveBack_17 : decode cX1_giveBack 17 = .ok (.return_, 1) := by decide +kernel
theorem dX1_giveBack_18 : decode cX1_giveBack 18 = .ok (.aload_n 0, 1) := by decide +kernel
theorem dX1_giveBack_19 : decode cX1_giveBack 19 = .ok (.getfield 9, 3) := by decide +kernel
theorem dX1_giveBack_22 : decode cX1_giveBack 22 = .ok (.iload_n 1, 1) := by decide +kernel
theorem dX1_giveBack_23 : decode cX1_giveBack 23 = .ok (.dup2, 1) := by decide +kernel
theorem dX1_giveBack_24 : decode cX1_giveBack 24 = .ok (.iaload, 1) := by decide +kernel
theorem dX1_giveBack_25 : decode cX1_giveBack 25 = .ok (.iconst 1, 1) := by decide +kernel
theorem dX1_giveBack_26 : decode cX1_giveBack 26 = .ok (.isub, 1) := by decide +kernel
theorem dX1_giveBack_27 : decode cX1_giveBack 27 = .ok (.iastore, 1) := by decide +kernel
theorem dX1_giveBack_28 : decode cX1_giveBack 28 = .ok (.aload_n 0, 1) := by decide +kernel
theorem dX1_giveBack_29 : decode cX1_giveBack 29 = .ok (.getfield 9, 3) := by decide +kernel
theorem dX1_giveBack_32 : decode cX1_giveBack 32 = .ok (.iload_n 1, 1) := by decide +kernel
theorem dX1_giveBack_33 : decode cX1_giveBack 33 = .ok (.iaload, 1) := by decide +kernel
theorem dX1_giveBack_34 : decode cX1_giveBack 34 = .ok (.ifCond .ne 27, 3) := by decide +kernel
theorem dX1_giveBack_37 : decode cX1_giveBack 37 = .ok (.aload_n 0, 1) := by decide +kernel
theorem dX1_giveBack_38 : decode cX1_giveBack 38 = .ok (.getfield 19, 3) := by decide +kernel
theorem dX1_giveBack_41 : decode cX1_giveBack 41 = .ok (.aload_n 0, 1) := by decide +kernel
theorem dX1_giveBack_42 : decode cX1_giveBack 42 = .ok (.aload_n 0, 1) := by decide +kernel
theorem dX1_giveBack_43 : decode cX1_giveBack 43 = .ok (.getfield 22, 3) := by decide +kernel
theorem dX1_giveBack_46 : decode cX1_giveBack 46 = .ok (.invokevirtual 30, 3) := by decide +kernel
theorem dX1_giveBack_49 : decode cX1_giveBack 49 = .ok (.iload_n 1, 1) := by decide +kernel
theorem dX1_giveBack_50 : decode cX1_giveBack 50 = .ok (.iastore, 1) := by decide +kernel
theorem dX1_giveBack_51 : decode cX1_giveBack 51 = .ok (.aload_n 0, 1) := by decide +kernel
theorem dX1_giveBack_52 : decode cX1_giveBack 52 = .ok (.dup, 1) := by decide +kernel
theorem dX1_giveBack_53 : decode cX1_giveBack 53 = .ok (.getfield 22, 3) := by decide +kernel
theorem dX1_giveBack_56 : decode cX1_giveBack 56 = .ok (.iconst 1, 1) := by decide +kernel
theorem dX1_giveBack_57 : decode cX1_giveBack 57 = .ok (.iadd, 1) := by decide +kernel
theorem dX1_giveBack_58 : decode cX1_giveBack 58 = .ok (.putfield 22, 3) := by decide +kernel
theorem dX1_giveBack_61 : decode cX1_giveBack 61 = .ok (.return_, 1) := by decide +kernel
set_option maxRecDepth 20000 in
theorem ggX1_makeReady_X1_isName : GoodIn wsX1_makeReady wsX1_isName := goodIn_r _ [6, 7, 8, 9, 10, 11, 12] (by decide +kernel) (by decide +kernel)
set_option maxRecDepth 20000 in
theorem gX1_makeReady_X1_isName : GoodIn wsX1_makeReady (wsV RX1 26 RX1 yX1_isName wsX1_isName) := goodIn_app (goodIn_of _ (by decide +kernel)) ggX1_makeReady_X1_isName
theorem dX1_makeReady_0 : decode cX1_makeReady 0 = .ok (.aload_n 0, 1) := by decide +kernel
theorem dX1_makeReady_1 : decode cX1_makeReady 1 = .ok (.iload_n 1, 1) := by decide +kernel
theorem dX1_makeReady_2 : decode cX1_makeReady 2 = .ok (.invokevirtual 26, 3) := by decide +kernel
theorem dX1_makeReady_5 : decode cX1_makeReady 5 = .ok (.ifCond .eq 10, 3) := by decide +kernel
theorem dX1_makeReady_8 : decode cX1_makeReady 8 = .ok (.aload_n 0, 1) := by decide +kernel
theorem dX1_makeReady_9 : decode cX1_makeReady 9 = .ok (.getfield 15, 3) := by decide +kernel
theorem dX1_makeReady_12 : decode cX1_makeReady 12 = .ok (.iload_n 1, 1) := by decide +kernel
theorem dX1_makeReady_13 : decode cX1_makeReady 13 = .ok (.iconst 1, 1) := by decide +kernel
theorem dX1_makeReady_14 : decode cX1_makeReady 14 = .ok (.bastore, 1) := by decide +kernel
theorem dX1_makeReady_15 : decode cX1_makeReady 15 = .ok (.return_, 1) := by decide +kernel
set_option maxRecDepth 20000 in
theorem ggX1_isReadyOrNone_X1_isName : GoodIn wsX1_isReadyOrNone wsX1_isName := goodIn_r _ [6, 7, 8, 9, 10, 11, 12] (by decide +kernel) (by decide +kernel)
set_option maxRecDepth 20000 in
theorem gX1_isReadyOrNone_X1_isName : GoodIn wsX1_isReadyOrNone (wsV RX1 26 RX1 yX1_isName wsX1_isName) := goodIn_app (goodIn_of _ (by decide +kernel)) ggX1_isReadyOrNone_X1_isName
theorem dX1_isReadyOrNone_0 : decode cX1_isReadyOrNone 0 = .ok (.aload_n 0, 1) := by decide +kernel
theorem dX1_isReadyOrNone_1 : decode cX1_isReadyOrNone 1 = .ok (.iload_n 1, 1) := by decide +kernel
theorem dX1_isReadyOrNone_2 : decode cX1_isReadyOrNone 2 = .ok (.invokevirtual 26, 3) := by decide +kernel
theorem dX1_isReadyOrNone_5 : decode cX1_isReadyOrNone 5 = .ok (.ifCond .eq 12, 3) := by decide +kernel
theorem dX1_isReadyOrNone_8 : decode cX1_isReadyOrNone 8 = .ok (.aload_n 0, 1) := by decide +kernel
theorem dX1_isReadyOrNone_9 : decode cX1_isReadyOrNone 9 = .ok (.getfield 15, 3) := by decide +kernel
theorem dX1_isReadyOrNone_12 : decode cX1_isReadyOrNone 12 = .ok (.iload_n 1, 1) := by decide +kernel
theorem dX1_isReadyOrNone_13 : decode cX1_isReadyOrNone 13 = .ok (.baload, 1) := by decide +kernel
theorem dX1_isReadyOrNone_14 : decode cX1_isReadyOrNone 14 = .ok (.ifCond .eq 7, 3) := by decide +kernel
theorem dX1_isReadyOrNone_17 : decode cX1_isReadyOrNone 17 = .ok (.iconst 1, 1) := by decide +kernel
theorem dX1_isReadyOrNone_18 : decode cX1_isReadyOrNone 18 = .ok (.goto 4, 3) := by decide +kernel
theorem dX1_isReadyOrNone_21 : decode cX1_isReadyOrNone 21 = .ok (.iconst 0, 1) := by decide +kernel
theorem dX1_isReadyOrNone_22 : decode cX1_isReadyOrNone 22 = .ok (.ireturn, 1) := by decide +kernel
theorem dX1_slotOf_0 : decode cX1_slotOf 0 = .ok (.aload_n 0, 1) := by decide +kernel
theorem dX1_slotOf_1 : decode cX1_slotOf 1 = .ok (.getfield 34, 3) := by decide +kernel
theorem dX1_slotOf_4 : decode cX1_slotOf 4 = .ok (.iload_n 1, 1) := by decide +kernel
theorem dX1_slotOf_5 : decode cX1_slotOf 5 = .ok (.iadd, 1) := by decide +kernel
theorem dX1_slotOf_6 : decode cX1_slotOf 6 = .ok (.istore_n 2, 1) := by decide +kernel
theorem dX1_slotOf_7 : decode cX1_slotOf 7 = .ok (.iload_n 2, 1) := by decide +kernel
theorem dX1_slotOf_8 : decode cX1_slotOf 8 = .ok (.aload_n 0, 1) := by decide +kernel
theorem dX1_slotOf_9 : decode cX1_slotOf 9 = .ok (.getfield 19, 3) := by decide +kernel
theorem dX1_slotOf_12 : decode cX1_slotOf 12 = .ok (.arraylength, 1) := by decide +kernel
theorem dX1_slotOf_13 : decode cX1_slotOf 13 = .ok (.if_icmp .ge 7, 3) := by decide +kernel
theorem dX1_slotOf_16 : decode cX1_slotOf 16 = .ok (.iload_n 2, 1) := by decide +kernel
theorem dX1_slotOf_17 : decode cX1_slotOf 17 = .ok (.goto 10, 3) := by decide +kernel
theorem dX1_slotOf_20 : decode cX1_slotOf 20 = .ok (.iload_n 2, 1) := by decide +kernel
theorem dX1_slotOf_21 : decode cX1_slotOf 21 = .ok (.aload_n 0, 1) := by decide +kernel
theorem dX1_slotOf_22 : decode cX1_slotOf 22 = .ok (.getfield 19, 3) := by decide +kernel
theorem dX1_slotOf_25 : decode cX1_slotOf 25 = .ok (.arraylength, 1) := by decide +kernel
theorem dX1_slotOf_26 : decode cX1_slotOf 26 = .ok (.isub, 1) := by decide +kernel
theorem dX1_slotOf_27 : decode cX1_slotOf 27 = .ok (.ireturn, 1) := by decide +kernel
end
section
theorem dX2_init_0 : decode cX2_init 0 = .ok (.aload_n 0, 1) := by decide +kernel
theorem dX2_init_1 : decode cX2_init 1 = .ok (.invokespecial 3, 3) := by decide +kernel
theorem dX2_init_4 : decode cX2_init 4 = .ok (.aload_n 0, 1) := by decide +kernel
theorem dX2_init_5 : decode cX2_init 5 = .ok (.iload_n 1, 1) := by decide +kernel
theorem dX2_init_6 : decode cX2_init 6 = .ok (.newarray .int, 2) := by decide +kernel
theorem dX2_init_8 : decode cX2_init 8 = .ok (.putfield 9, 3) := by decide +kernel
theorem dX2_init_11 : decode cX2_init 11 = .ok (.aload_n 0, 1) := by decide +kernel
theorem dX2_init_12 : decode cX2_init 12 = .ok (.iload_n 1, 1) := by decide +kernel
theorem dX2_init_13 : decode cX2_init 13 = .ok (.newarray .int, 2) := by decide +kernel
theorem dX2_init_15 : decode cX2_init 15 = .ok (.putfield 15, 3) := by decide +kernel
theorem dX2_init_18 : decode cX2_init 18 = .ok (.aload_n 0, 1) := by decide +kernel
theorem dX2_init_19 : decode cX2_init 19 = .ok (.iload_n 1, 1) := by decide +kernel
theorem dX2_init_20 : decode cX2_init 20 = .ok (.newarray .int, 2) := by decide +kernel
theorem dX2_init_22 : decode cX2_init 22 = .ok (.putfield 18, 3) := by decide +kernel
theorem dX2_init_25 : decode cX2_init 25 = .ok (.aload_n 0, 1) := by decide +kernel
theorem dX2_init_26 : decode cX2_init 26 = .ok (.iload_n 1, 1) := by decide +kernel
theorem dX2_init_27 : decode cX2_init 27 = .ok (.newarray .int, 2) := by decide +kernel
theorem dX2_init_29 : decode cX2_init 29 = .ok (.putfield 21, 3) := by decide +kernel
theorem dX2_init_32 : decode cX2_init 32 = .ok (.aload_n 0, 1) := by decide +kernel
theorem dX2_init_33 : decode cX2_init 33 = .ok (.iload_n 1, 1) := by decide +kernel
theorem dX2_init_34 : decode cX2_init 34 = .ok (.newarray .int, 2) := by decide +kernel
theorem dX2_init_36 : decode cX2_init 36 = .ok (.putfield 24, 3) := by decide +kernel
theorem dX2_init_39 : decode cX2_init 39 = .ok (.aload_n 0, 1) := by decide +kernel
theorem dX2_init_40 : decode cX2_init 40 = .ok (.iload_n 1, 1) := by decide +kernel
theorem dX2_init_41 : decode cX2_init 41 = .ok (.newarray .int, 2) := by decide +kernel
theorem dX2_init_43 : decode cX2_init 43 = .ok (.putfield 27, 3) := by decide +kernel
theorem dX2_init_46 : decode cX2_init 46 = .ok (.aload_n 0, 1) := by decide +kernel
theorem dX2_init_47 : decode cX2_init 47 = .ok (.iload_n 1, 1) := by decide +kernel
theorem dX2_init_48 : decode cX2_init 48 = .ok (.newarray .int, 2) := by decide +kernel
theorem dX2_init_50 : decode cX2_init 50 = .ok (.putfield 30, 3) := by decide +kernel
theorem dX2_init_53 : decode cX2_init 53 = .ok (.return_, 1) := by decide +kernel
theorem dX2_placeCount_0 : decode cX2_placeCount 0 = .ok (.aload_n 0, 1) := by decide +kernel
theorem dX2_placeCount_1 : decode cX2_placeCount 1 = .ok (.getfield 30, 3) := by decide +kernel
theorem dX2_placeCount_4 : decode cX2_placeCount 4 = .ok (.arraylength, 1) := by decide +kernel
theorem dX2_placeCount_5 : decode cX2_placeCount 5 = .ok (.ireturn, 1) := by decide +kernel
theorem dX2_rowCount_0 : decode cX2_rowCount 0 = .ok (.aload_n 0, 1) := by decide +kernel
theorem dX2_rowCount_1 : decode cX2_rowCount 1 = .ok (.getfield 33, 3) := by decide +kernel
theorem dX2_rowCount_4 : decode cX2_rowCount 4 = .ok (.ireturn, 1) := by decide +kernel
theorem dX2_doneCount_0 : decode cX2_doneCount 0 = .ok (.aload_n 0, 1) := by decide +kernel
theorem dX2_doneCount_1 : decode cX2_doneCount 1 = .ok (.getfield 37, 3) := by decide +kernel
theorem dX2_doneCount_4 : decode cX2_doneCount 4 = .ok (.ireturn, 1) := by decide +kernel
theorem dX2_rowsSinceBeginning_0 : decode cX2_rowsSinceBeginning 0 = .ok (.aload_n 0, 1) := by decide +kernel
theorem dX2_rowsSinceBeginning_1 : decode cX2_rowsSinceBeginning 1 = .ok (.getfield 37, 3) := by decide +kernel
theorem dX2_rowsSinceBeginning_4 : decode cX2_rowsSinceBeginning 4 = .ok (.aload_n 0, 1) := by decide +kernel
theorem dX2_rowsSinceBeginning_5 : decode cX2_rowsSinceBeginning 5 = .ok (.getfield 33, 3) := by decide +kernel
theorem dX2_rowsSinceBeginning_8 : decode cX2_rowsSinceBeginning 8 = .ok (.iadd, 1) := by decide +kernel
theorem dX2_rowsSinceBeginning_9 : decode cX2_rowsSinceBeginning 9 = .ok (.ireturn, 1) := by decide +kernel
theorem dX2_isFull_0 : decode cX2_isFull 0 = .ok (.aload_n 0, 1) := by decide +kernel
theorem dX2_isFull_1 : decode cX2_isFull 1 = .ok (.getfield 33, 3) := by decide +kernel
theorem dX2_isFull_4 : decode cX2_isFull 4 = .ok (.aload_n 0, 1) := by decide +kernel
theorem dX2_isFull_5 : decode cX2_isFull 5 = .ok (.getfield 30, 3) := by decide +kernel
theorem dX2_isFull_8 : decode cX2_isFull 8 = .ok (.arraylength, 1) := by decide +kernel
theorem dX2_isFull_9 : decode cX2_isFull 9 = .ok (.if_icmp .lt 7, 3) := by decide +kernel
theorem dX2_isFull_12 : decode cX2_isFull 12 = .ok (.iconst 1, 1) := by decide +kernel
theorem dX2_isFull_13 : decode cX2_isFull 13 = .ok (.goto 4, 3) := by decide +kernel
theorem dX2_isFull_16 : decode cX2_isFull 16 = .ok (.iconst 0, 1) := by decide +kernel
theorem dX2_isFull_17 : decode cX2_isFull 17 = .ok (.ireturn, 1) := by decide +kernel
theorem dX2_isPlace_0 : decode cX2_isPlace 0 = .ok (.iload_n 1, 1) := by decide +kernel
theorem dX2_isPlace_1 : decode cX2_isPlace 1 = .ok (.ifCond .lt 16, 3) := by decide +kernel
theorem dX2_isPlace_4 : decode cX2_isPlace 4 = .ok (.iload_n 1, 1) := by decide +kernel
theorem dX2_isPlace_5 : decode cX2_isPlace 5 = .ok (.aload_n 0, 1) := by decide +kernel
theorem dX2_isPlace_6 : decode cX2_isPlace 6 = .ok (.getfield 30, 3) := by decide +kernel
theorem dX2_isPlace_9 : decode cX2_isPlace 9 = .ok (.arraylength, 1) := by decide +kernel
theorem dX2_isPlace_10 : decode cX2_isPlace 10 = .ok (.if_icmp .ge 7, 3) := by decide +kernel
theorem dX2_isPlace_13 : decode cX2_isPlace 13 = .ok (.iconst 1, 1) := by decide +kernel
theorem dX2_isPlace_14 : decode cX2_isPlace 14 = .ok (.goto 4, 3) := by decide +kernel
theorem dX2_isPlace_17 : decode cX2_isPlace 17 = .ok (.iconst 0, 1) := by decide +kernel
theorem dX2_isPlace_18 : decode cX2_isPlace 18 = .ok (.ireturn, 1) := by decide +kernel
set_option maxRecDepth 20000 in
theorem ggX2_holdsRow_X2_isPlace : GoodIn wsX2_holdsRow wsX2_isPlace := goodIn_r _ [6, 7, 13, 14, 15, 16, 17, 18, 19, 20, 21, 22] (by decide +kernel) (by decide +kernel)
set_option maxRecDepth 20000 in
theorem gX2_holdsRow_X2_isPlace : GoodIn wsX2_holdsRow (wsV RX2 40 RX2 yX2_isPlace wsX2_isPlace) := goodIn_app (goodIn_of _ (by decide +kernel)) ggX2_holdsRow_X2_isPlace
set_option maxRecDepth 20000 in
theorem ggX2_holdsRow_X2_ageOf : GoodIn wsX2_holdsRow wsX2_ageOf := goodIn_r _ [11, 12, 7, 13, 14, 15, 16, 17, 18, 19, 20, 21, 22] (by decide +kernel) (by decide +kernel)
set_option maxRecDepth 20000 in
theorem gX2_holdsRow_X2_ageOf : GoodIn wsX2_holdsRow (wsV RX2 44 RX2 yX2_ageOf wsX2_ageOf) := goodIn_app (goodIn_of _ (by decide +kernel)) ggX2_holdsRow_X2_ageOf
theorem dX2_holdsRow_0 : decode cX2_holdsRow 0 = .ok (.aload_n 0, 1) := by decide +kernel
theorem dX2_holdsRow_1 : decode cX2_holdsRow 1 = .ok (.iload_n 1, 1) := by decide +kernel
theorem dX2_holdsRow_2 : decode cX2_holdsRow 2 = .ok (.invokevirtual 40, 3) := by decide +kernel
theorem dX2_holdsRow_5 : decode cX2_holdsRow 5 = .ok (.ifCond .eq 19, 3) := by decide +kernel
theorem dX2_holdsRow_8 : decode cX2_holdsRow 8 = .ok (.aload_n 0, 1) := by decide +kernel
theorem dX2_holdsRow_9 : decode cX2_holdsRow 9 = .ok (.iload_n 1, 1) := by decide +kernel
theorem dX2_holdsRow_10 : decode cX2_holdsRow 10 = .ok (.invokevirtual 44, 3) := by decide +kernel
theorem dX2_holdsRow_13 : decode cX2_holdsRow 13 = .ok (.aload_n 0, 1) := by decide +kernel
theorem dX2_holdsRow_14 : decode cX2_holdsRow 14 = .ok (.getfield 33, 3) := by decide +kernel
theorem dX2_holdsRow_17 : decode cX2_holdsRow 17 = .ok (.if_icmp .ge 7, 3) := by decide +kernel
theorem dX2_holdsRow_20 : decode cX2_holdsRow 20 = .ok (.iconst 1, 1) := by decide +kernel
theorem dX2_holdsRow_21 : decode cX2_holdsRow 21 = .ok (.goto 4, 3) := by decide +kernel
theorem dX2_holdsRow_24 : decode cX2_holdsRow 24 = .ok (.iconst 0, 1) := by decide +kernel
theorem dX2_holdsRow_25 : decode cX2_holdsRow 25 = .ok (.ireturn, 1) := by decide +kernel
set_option maxRecDepth 20000 in
theorem ggX2_isInState_X2_holdsRow : GoodIn wsX2_isInState wsX2_holdsRow := goodIn_r _ [6, 7, 8, 9, 10, 5, 11, 1, 12, 13, 14, 15, 16, 17, 18, 19, 20, 21, 22, 23, 24, 25, 26] (by decide +kernel) (by decide +kernel)
set_option maxRecDepth 20000 in
theorem gX2_isInState_X2_holdsRow : GoodIn wsX2_isInState (wsV RX2 48 RX2 yX2_holdsRow wsX2_holdsRow) := goodIn_app (goodIn_of _ (by decide +kernel)) ggX2_isInState_X2_holdsRow
theorem dX2_isInState_0 : decode cX2_isInState 0 = .ok (.aload_n 0, 1) := by decide +kernel
theorem dX2_isInState_1 : decode cX2_isInState 1 = .ok (.iload_n 1, 1) := by decide +kernel
theorem dX2_isInState_2 : decode cX2_isInState 2 = .ok (.invokevirtual 48, 3) := by decide +kernel
theorem dX2_isInState_5 : decode cX2_isInState 5 = .ok (.ifCond .eq 17, 3) := by decide +kernel
theorem dX2_isInState_8 : decode cX2_isInState 8 = .ok (.aload_n 0, 1) := by decide +kernel
theorem dX2_isInState_9 : decode cX2_isInState 9 = .ok (.getfield 30, 3) := by decide +kernel
theorem dX2_isInState_12 : decode cX2_isInState 12 = .ok (.iload_n 1, 1) := by decide +kernel
theorem dX2_isInState_13 : decode cX2_isInState 13 = .ok (.iaload, 1) := by decide +kernel
theorem dX2_isInState_14 : decode cX2_isInState 14 = .ok (.iload_n 2, 1) := by decide +kernel
theorem dX2_isInState_15 : decode cX2_isInState 15 = .ok (.if_icmp .ne 7, 3) := by decide +kernel
theorem dX2_isInState_18 : decode cX2_isInState 18 = .ok (.iconst 1, 1) := by decide +kernel
theorem dX2_isInState_19 : decode cX2_isInState 19 = .ok (.goto 4, 3) := by decide +kernel
theorem dX2_isInState_22 : decode cX2_isInState 22 = .ok (.iconst 0, 1) := by decide +kernel
theorem dX2_isInState_23 : decode cX2_isInState 23 = .ok (.ireturn, 1) := by decide +kernel
theorem dX2_oldestPlace_0 : decode cX2_oldestPlace 0 = .ok (.aload_n 0, 1) := by decide +kernel
theorem dX2_oldestPlace_1 : decode cX2_oldestPlace 1 = .ok (.getfield 33, 3) := by decide +kernel
theorem dX2_oldestPlace_4 : decode cX2_oldestPlace 4 = .ok (.ifCond .ne 7, 3) := by decide +kernel
theorem dX2_oldestPlace_7 : decode cX2_oldestPlace 7 = .ok (.iconst (-1), 1) := by decide +kernel
theorem dX2_oldestPlace_8 : decode cX2_oldestPlace 8 = .ok (.goto 7, 3) := by decide +kernel
theorem dX2_oldestPlace_11 : decode cX2_oldestPlace 11 = .ok (.aload_n 0, 1) := by decide +kernel
theorem dX2_oldestPlace_12 : decode cX2_oldestPlace 12 = .ok (.getfield 51, 3) := by decide +kernel
theorem dX2_oldestPlace_15 : decode cX2_oldestPlace 15 = .ok (.ireturn, 1) := by decide +kernel
set_option maxRecDepth 20000 in
theorem ggX2_lastPlace_X2_placeOfAge : GoodIn wsX2_lastPlace wsX2_placeOfAge := goodIn_r _ [6, 7, 8, 9, 10, 11, 12, 13, 14, 15, 16, 17, 18] (by decide +kernel) (by decide +kernel)
set_option maxRecDepth 20000 in
theorem gX2_lastPlace_X2_placeOfAge : GoodIn wsX2_lastPlace (wsV RX2 54 RX2 yX2_placeOfAge wsX2_placeOfAge) := goodIn_app (goodIn_of _ (by decide +kernel)) ggX2_lastPlace_X2_placeOfAge
theorem dX2_lastPlace_0 : decode cX2_lastPlace 0 = .ok (.aload_n 0, 1) := by decide +kernel
theorem dX2_lastPlace_1 : decode cX2_lastPlace 1 = .ok (.getfield 33, 3) := by decide +kernel
theorem dX2_lastPlace_4 : decode cX2_lastPlace 4 = .ok (.ifCond .ne 7, 3) := by decide +kernel
theorem dX2_lastPlace_7 : decode cX2_lastPlace 7 = .ok (.iconst (-1), 1) := by decide +kernel
theorem dX2_lastPlace_8 : decode cX2_lastPlace 8 = .ok (.goto 13, 3) := by decide +kernel
theorem dX2_lastPlace_11 : decode cX2_lastPlace 11 = .ok (.aload_n 0, 1) := by decide +kernel
theorem dX2_lastPlace_12 : decode cX2_lastPlace 12 = .ok (.aload_n 0, 1) := by decide +kernel
theorem dX2_lastPlace_13 : decode cX2_lastPlace 13 = .ok (.getfield 33, 3) := by decide +kernel
theorem dX2_lastPlace_16 : decode cX2_lastPlace 16 = .ok (.iconst 1, 1) := by decide +kernel
theorem dX2_lastPlace_17 : decode cX2_lastPlace 17 = .ok (.isub, 1) := by decide +kernel
theorem dX2_lastPlace_18 : decode cX2_lastPlace 18 = .ok (.invokevirtual 54, 3) := by decide +kernel
theorem dX2_lastPlace_21 : decode cX2_lastPlace 21 = .ok (.ireturn, 1) := by decide +kernel
theorem dX2_placeOfAge_0 : decode cX2_placeOfAge 0 = .ok (.aload_n 0, 1) := by decide +kernel
theorem dX2_placeOfAge_1 : decode cX2_placeOfAge 1 = .ok (.getfield 51, 3) := by decide +kernel
theorem dX2_placeOfAge_4 : decode cX2_placeOfAge 4 = .ok (.iload_n 1, 1) := by decide +kernel
theorem dX2_placeOfAge_5 : decode cX2_placeOfAge 5 = .ok (.iadd, 1) := by decide +kernel
theorem dX2_placeOfAge_6 : decode cX2_placeOfAge 6 = .ok (.istore_n 2, 1) := by decide +kernel
theorem dX2_placeOfAge_7 : decode cX2_placeOfAge 7 = .ok (.iload_n 2, 1) := by decide +kernel
theorem dX2_placeOfAge_8 : decode cX2_placeOfAge 8 = .ok (.aload_n 0, 1) := by decide +kernel
theorem dX2_placeOfAge_9 : decode cX2_placeOfAge 9 = .ok (.getfield 30, 3) := by decide +kernel
theorem dX2_placeOfAge_12 : decode cX2_placeOfAge 12 = .ok (.arraylength, 1) := by decide +kernel
theorem dX2_placeOfAge_13 : decode cX2_placeOfAge 13 = .ok (.if_icmp .ge 7, 3) := by decide +kernel
theorem dX2_placeOfAge_16 : decode cX2_placeOfAge 16 = .ok (.iload_n 2, 1) := by decide +kernel
theorem dX2_placeOfAge_17 : decode cX2_placeOfAge 17 = .ok (.goto 10, 3) := by decide +kernel
theorem dX2_placeOfAge_20 : decode cX2_placeOfAge 20 = .ok (.iload_n 2, 1) := by decide +kernel
theorem dX2_placeOfAge_21 : decode cX2_placeOfAge 21 = .ok (.aload_n 0, 1) := by decide +kernel
theorem dX2_placeOfAge_22 : decode cX2_placeOfAge 22 = .ok (.getfield 30, 3) := by decide +kernel
theorem dX2_placeOfAge_25 : decode cX2_placeOfAge 25 = .ok (.arraylength, 1) := by decide +kernel
theorem dX2_placeOfAge_26 : decode cX2_placeOfAge 26 = .ok (.isub, 1) := by decide +kernel
theorem dX2_placeOfAge_27 : decode cX2_placeOfAge 27 = .ok (.ireturn, 1) := by decide +kernel
theorem dX2_ageOf_0 : decode cX2_ageOf 0 = .ok (.iload_n 1, 1) := by decide +kernel
theorem dX2_ageOf_1 : decode cX2_ageOf 1 = .ok (.aload_n 0, 1) := by decide +kernel
theorem dX2_ageOf_2 : decode cX2_ageOf 2 = .ok (.getfield 51, 3) := by decide +kernel
theorem dX2_ageOf_5 : decode cX2_ageOf 5 = .ok (.if_icmp .lt 12, 3) := by decide +kernel
theorem dX2_ageOf_8 : decode cX2_ageOf 8 = .ok (.iload_n 1, 1) := by decide +kernel
theorem dX2_ageOf_9 : decode cX2_ageOf 9 = .ok (.aload_n 0, 1) := by decide +kernel
theorem dX2_ageOf_10 : decode cX2_ageOf 10 = .ok (.getfield 51, 3) := by decide +kernel
theorem dX2_ageOf_13 : decode cX2_ageOf 13 = .ok (.isub, 1) := by decide +kernel
theorem dX2_ageOf_14 : decode cX2_ageOf 14 = .ok (.goto 15, 3) := by decide +kernel
theorem dX2_ageOf_17 : decode cX2_ageOf 17 = .ok (.iload_n 1, 1) := by decide +kernel
theorem dX2_ageOf_18 : decode cX2_ageOf 18 = .ok (.aload_n 0, 1) := by decide +kernel
theorem dX2_ageOf_19 : decode cX2_ageOf 19 = .ok (.getfield 51, 3) := by decide +kernel
theorem dX2_ageOf_22 : decode cX2_ageOf 22 = .ok (.isub, 1) := by decide +kernel
theorem dX2_ageOf_23 : decode cX2_ageOf 23 = .ok (.aload_n 0, 1) := by decide +kernel
theorem dX2_ageOf_24 : decode cX2_ageOf 24 = .ok (.getfield 30, 3) := by decide +kernel
theorem dX2_ageOf_27 : decode cX2_ageOf 27 = .ok (.arraylength, 1) := by decide +kernel
theorem dX2_ageOf_28 : decode cX2_ageOf 28 = .ok (.iadd, 1) := by decide +kernel
theorem dX2_ageOf_29 : decode cX2_ageOf 29 = .ok (.ireturn, 1) := by decide +kernel
set_option maxRecDepth 20000 in
theorem ggX2_append_X2_isFull : GoodIn wsX2_append wsX2_isFull := goodIn_r _ [13, 1, 8, 19, 20, 21, 22, 23, 24, 25, 26, 27, 28] (by decide +kernel) (by decide +kernel)
set_option maxRecDepth 20000 in
theorem gX2_append_X2_isFull : GoodIn wsX2_append (wsV RX2 57 RX2 yX2_isFull wsX2_isFull) := goodIn_app (goodIn_of _ (by decide +kernel)) ggX2_append_X2_isFull
set_option maxRecDepth 20000 in
theorem ggX2_append_X2_placeOfAge : GoodIn wsX2_append wsX2_placeOfAge := goodIn_r _ [17, 18, 8, 19, 20, 21, 22, 23, 24, 25, 26, 27, 28] (by decide +kernel) (by decide +kernel)
set_option maxRecDepth 20000 in
theorem gX2_append_X2_placeOfAge : GoodIn wsX2_append (wsV RX2 54 RX2 yX2_placeOfAge wsX2_placeOfAge) := goodIn_app (goodIn_of _ (by decide +kernel)) ggX2_append_X2_placeOfAge
theorem dX2_append_0 : decode cX2_append 0 = .ok (.aload_n 0, 1) := by decide +kernel
theorem dX2_append_1 : decode cX2_append 1 = .ok (.invokevirtual 57, 3) := by decide +kernel
theorem dX2_append_4 : decode cX2_append 4 = .ok (.ifCond .eq 5, 3) := by decide +kernel
theorem dX2_append_7 : decode cX2_append 7 = .ok (.iconst (-1), 1) := by decide +kernel
theorem dX2_append_8 : decode cX2_append 8 = .ok (.ireturn, 1) := by decide +kernel
theorem dX2_append_9 : decode cX2_append 9 = .ok (.aload_n 0, 1) := by decide +kernel
theorem dX2_append_10 : decode cX2_append 10 = .ok (.aload_n 0, 1) := by decide +kernel
theorem dX2_append_11 : decode cX2_append 11 = .ok (.getfield 33, 3) := by decide +kernel
theorem dX2_append_14 : decode cX2_append 14 = .ok (.invokevirtual 54, 3) := by decide +kernel
theorem dX2_append_17 : decode cX2_append 17 = .ok (.istore 7, 2) := by decide +kernel
theorem dX2_append_19 : decode cX2_append 19 = .ok (.aload_n 0, 1) := by decide +kernel
theorem dX2_append_20 : decode cX2_append 20 = .ok (.getfield 9, 3) := by decide +kernel
theorem dX2_append_23 : decode cX2_append 23 = .ok (.iload 7, 2) := by decide +kernel
theorem dX2_append_25 : decode cX2_append 25 = .ok (.iload_n 1, 1) := by decide +kernel
theorem dX2_append_26 : decode cX2_append 26 = .ok (.iastore, 1) := by decide +kernel
theorem dX2_append_27 : decode cX2_append 27 = .ok (.aload_n 0, 1) := by decide +kernel
theorem dX2_append_28 : decode cX2_append 28 = .ok (.getfield 15, 3) := by decide +kernel
theorem dX2_append_31 : decode cX2_append 31 = .ok (.iload 7, 2) := by decide +kernel
theorem dX2_append_33 : decode cX2_append 33 = .ok (.iload_n 2, 1) := by decide +kernel
theorem dX2_append_34 : decode cX2_append 34 = .ok (.iastore, 1) := by decide +kernel
theorem dX2_append_35 : decode cX2_append 35 = .ok (.aload_n 0, 1) := by decide +kernel
theorem dX2_append_36 : decode cX2_append 36 = .ok (.getfield 18, 3) := by decide +kernel
theorem dX2_append_39 : decode cX2_append 39 = .ok (.iload 7, 2) := by decide +kernel
theorem dX2_append_41 : decode cX2_append 41 = .ok (.iload_n 3, 1) := by decide +kernel
theorem dX2_append_42 : decode cX2_append 42 = .ok (.iastore, 1) := by decide +kernel
theorem dX2_append_43 : decode cX2_append 43 = .ok (.aload_n 0, 1) := by decide +kernel
theorem dX2_append_44 : decode cX2_append 44 = .ok (.getfield 21, 3) := by decide +kernel
theorem dX2_append_47 : decode cX2_append 47 = .ok (.iload 7, 2) := by decide +kernel
theorem dX2_append_49 : decode cX2_append 49 = .ok (.iload 4, 2) := by decide +kernel
theorem dX2_append_51 : decode cX2_append 51 = .ok (.iastore, 1) := by decide +kernel
theorem dX2_append_52 : decode cX2_append 52 = .ok (.aload_n 0, 1) := by decide +kernel
theorem dX2_append_53 : decode cX2_append 53 = .ok (.getfield 24, 3) := by decide +kernel
theorem dX2_append_56 : decode cX2_append 56 = .ok (.iload 7, 2) := by decide +kernel
theorem dX2_append_58 : decode cX2_append 58 = .ok (.iload 5, 2) := by decide +kernel
theorem dX2_append_60 : decode cX2_append 60 = .ok (.iastore, 1) := by decide +kernel
theorem dX2_append_61 : decode cX2_append 61 = .ok (.aload_n 0, 1) := by decide +kernel
theorem dX2_append_62 : decode cX2_append 62 = .ok (.getfield 27, 3) := by decide +kernel
theorem dX2_append_65 : decode cX2_append 65 = .ok (.iload 7, 2) := by decide +kernel
theorem dX2_append_67 : decode cX2_append 67 = .ok (.iconst 0, 1) := by decide +kernel
theorem dX2_append_68 : decode cX2_append 68 = .ok (.iastore, 1) := by decide +kernel
theorem dX2_append_69 : decode cX2_append 69 = .ok (.aload_n 0, 1) := by decide +kernel
theorem dX2_append_70 : decode cX2_append 70 = .ok (.getfield 30, 3) := by decide +kernel
theorem dX2_append_73 : decode cX2_append 73 = .ok (.iload 7, 2) := by decide +kernel
theorem dX2_append_75 : decode cX2_append 75 = .ok (.iload 6, 2) := by decide +kernel
theorem dX2_append_77 : decode cX2_append 77 = .ok (.iastore, 1) := by decide +kernel
theorem dX2_append_78 : decode cX2_append 78 = .ok (.aload_n 0, 1) := by decide +kernel
theorem dX2_append_79 : decode cX2_append 79 = .ok (.dup, 1) := by decide +kernel
theorem dX2_append_80 : decode cX2_append 80 = .ok (.getfield 33, 3) := by decide +kernel
theorem dX2_append_83 : decode cX2_append 83 = .ok (.iconst 1, 1) := by decide +kernel
theorem dX2_append_84 : decode cX2_append 84 = .ok (.iadd, 1) := by decide +kernel
theorem dX2_append_85 : decode cX2_append 85 = .ok (.putfield 33, 3) := by decide +kernel
theorem dX2_append_88 : decode cX2_append 88 = .ok (.iload 7, 2) := by decide +kernel
theorem dX2_append_90 : decode cX2_append 90 = .ok (.ireturn, 1) := by decide +kernel
set_option maxRecDepth 20000 in
theorem ggX2_dropOldest_X2_placeOfAge : GoodIn wsX2_dropOldest wsX2_placeOfAge := goodIn_r _ [8, 2, 9, 10, 11, 12, 13, 14, 15, 16, 17, 18, 19] (by decide +kernel) (by decide +kernel)
set_option maxRecDepth 20000 in
theorem gX2_dropOldest_X2_placeOfAge : GoodIn wsX2_dropOldest (wsV RX2 54 RX2 yX2_placeOfAge wsX2_placeOfAge) := goodIn_app (goodIn_of _ (by decide +kernel)) ggX2_dropOldest_X2_placeOfAge
theorem dX2_dropOldest_0 : decode cX2_dropOldest 0 = .ok (.aload_n 0, 1) := by decide +kernel
theorem dX2_dropOldest_1 : decode cX2_dropOldest 1 = .ok (.getfield 33, 3) := by decide +kernel
theorem dX2_dropOldest_4 : decode cX2_dropOldest 4 = .ok (.ifCond .le 32, 3) := by decide +kernel
theorem dX2_dropOldest_7 : decode cX2_dropOldest 7 = .ok (.aload_n 0, 1) := by decide +kernel
theorem dX2_dropOldest_8 : decode cX2_dropOldest 8 = .ok (.aload_n 0, 1) := by decide +kernel
theorem dX2_dropOldest_9 : decode cX2_dropOldest 9 = .ok (.iconst 1, 1) := by decide +kernel
theorem dX2_dropOldest_10 : decode cX2_dropOldest 10 = .ok (.invokevirtual 54, 3) := by decide +kernel
theorem dX2_dropOldest_13 : decode cX2_dropOldest 13 = .ok (.putfield 51, 3) := by decide +kernel
theorem dX2_dropOldest_16 : decode cX2_dropOldest 16 = .ok (.aload_n 0, 1) := by decide +kernel
theorem dX2_dropOldest_17 : decode cX2_dropOldest 17 = .ok (.dup, 1) := by decide +kernel
theorem dX2_dropOldest_18 : decode cX2_dropOldest 18 = .ok (.getfield 33, 3) := by decide +kernel
theorem dX2_dropOldest_21 : decode cX2_dropOldest 21 = .ok (.iconst 1, 1) := by decide +kernel
theorem dX2_dropOldest_22 : decode cX2_dropOldest 22 = .ok (.isub, 1) := by decide +kernel
theorem dX2_dropOldest_23 : decode cX2_dropOldest 23 = .ok (.putfield 33, 3) := by decide +kernel
theorem dX2_dropOldest_26 : decode cX2_dropOldest 26 = .ok (.aload_n 0, 1) := by decide +kernel
theorem dX2_dropOldest_27 : decode cX2_dropOldest 27 = .ok (.dup, 1) := by decide +kernel
theorem dX2_dropOldest_28 : decode cX2_dropOldest 28 = .ok (.getfield 37, 3) := by decide +kernel
theorem dX2_dropOldest_31 : decode cX2_dropOldest 31 = .ok (.iconst 1, 1) := by decide +kernel
theorem dX2_dropOldest_32 : decode cX2_dropOldest 32 = .ok (.iadd, 1) := by decide +kernel
theorem dX2_dropOldest_33 : decode cX2_dropOldest 33 = .ok (.putfield 37, 3) := by decide +kernel
theorem dX2_dropOldest_36 : decode cX2_dropOldest 36 = .ok (.return_, 1) := by decide +kernel
theorem dX2_dropLast_0 : decode cX2_dropLast 0 = .ok (.aload_n 0, 1) := by decide +kernel
theorem dX2_dropLast_1 : decode cX2_dropLast 1 = .ok (.getfield 33, 3) := by decide +kernel
theorem dX2_dropLast_4 : decode cX2_dropLast 4 = .ok (.ifCond .le 13, 3) := by decide +kernel
theorem dX2_dropLast_7 : decode cX2_dropLast 7 = .ok (.aload_n 0, 1) := by decide +kernel
theorem dX2_dropLast_8 : decode cX2_dropLast 8 = .ok (.dup, 1) := by decide +kernel
theorem dX2_dropLast_9 : decode cX2_dropLast 9 = .ok (.getfield 33, 3) := by decide +kernel
theorem dX2_dropLast_12 : decode cX2_dropLast 12 = .ok (.iconst 1, 1) := by decide +kernel
theorem dX2_dropLast_13 : decode cX2_dropLast 13 = .ok (.isub, 1) := by decide +kernel
theorem dX2_dropLast_14 : decode cX2_dropLast 14 = .ok (.putfield 33, 3) := by decide +kernel
theorem dX2_dropLast_17 : decode cX2_dropLast 17 = .ok (.return_, 1) := by decide +kernel
set_option maxRecDepth 20000 in
theorem ggX2_readAAt_X2_isPlace : GoodIn wsX2_readAAt wsX2_isPlace := goodIn_r _ [6, 7, 8, 9, 10, 11, 12, 13, 14, 15, 16, 17] (by decide +kernel) (by decide +kernel)
set_option maxRecDepth 20000 in
theorem gX2_readAAt_X2_isPlace : GoodIn wsX2_readAAt (wsV RX2 40 RX2 yX2_isPlace wsX2_isPlace) := goodIn_app (goodIn_of _ (by decide +kernel)) ggX2_readAAt_X2_isPlace
theorem dX2_readAAt_0 : decode cX2_readAAt 0 = .ok (.aload_n 0, 1) := by decide +kernel
theorem dX2_readAAt_1 : decode cX2_readAAt 1 = .ok (.iload_n 1, 1) := by decide +kernel
theorem dX2_readAAt_2 : decode cX2_readAAt 2 = .ok (.invokevirtual 40, 3) := by decide +kernel
theorem dX2_readAAt_5 : decode cX2_readAAt 5 = .ok (.ifCond .eq 12, 3) := by decide +kernel
theorem dX2_readAAt_8 : decode cX2_readAAt 8 = .ok (.aload_n 0, 1) := by decide +kernel
theorem dX2_readAAt_9 : decode cX2_readAAt 9 = .ok (.getfield 9, 3) := by decide +kernel
theorem dX2_readAAt_12 : decode cX2_readAAt 12 = .ok (.iload_n 1, 1) := by decide +kernel
theorem dX2_readAAt_13 : decode cX2_readAAt 13 = .ok (.iaload, 1) := by decide +kernel
theorem dX2_readAAt_14 : decode cX2_readAAt 14 = .ok (.goto 4, 3) := by decide +kernel
theorem dX2_readAAt_17 : decode cX2_readAAt 17 = .ok (.iconst (-1), 1) := by decide +kernel
theorem dX2_readAAt_18 : decode cX2_readAAt 18 = .ok (.ireturn, 1) := by decide +kernel
set_option maxRecDepth 20000 in
theorem ggX2_readBAt_X2_isPlace : GoodIn wsX2_readBAt wsX2_isPlace := goodIn_r _ [6, 7, 8, 9, 10, 11, 12, 13, 14, 15, 16, 17] (by decide +kernel) (by decide +kernel)
set_option maxRecDepth 20000 in
theorem gX2_readBAt_X2_isPlace : GoodIn wsX2_readBAt (wsV RX2 40 RX2 yX2_isPlace wsX2_isPlace) := goodIn_app (goodIn_of _ (by decide +kernel)) ggX2_readBAt_X2_isPlace
theorem dX2_readBAt_0 : decode cX2_readBAt 0 = .ok (.aload_n 0, 1) := by decide +kernel
theorem dX2_readBAt_1 : decode cX2_readBAt 1 = .ok (.iload_n 1, 1) := by decide +kernel
theorem dX2_readBAt_2 : decode cX2_readBAt 2 = .ok (.invokevirtual 40, 3) := by decide +kernel
theorem dX2_readBAt_5 : decode cX2_readBAt 5 = .ok (.ifCond .eq 12, 3) := by decide +kernel
theorem dX2_readBAt_8 : decode cX2_readBAt 8 = .ok (.aload_n 0, 1) := by decide +kernel
theorem dX2_readBAt_9 : decode cX2_readBAt 9 = .ok (.getfield 15, 3) := by decide +kernel
theorem dX2_readBAt_12 : decode cX2_readBAt 12 = .ok (.iload_n 1, 1) := by decide +kernel
theorem dX2_readBAt_13 : decode cX2_readBAt 13 = .ok (.iaload, 1) := by decide +kernel
theorem dX2_readBAt_14 : decode cX2_readBAt 14 = .ok (.goto 4, 3) := by decide +kernel
theorem dX2_readBAt_17 : decode cX2_readBAt 17 = .ok (.iconst (-1), 1) := by decide +kernel
theorem dX2_readBAt_18 : decode cX2_readBAt 18 = .ok (.ireturn, 1) := by decide +kernel
set_option maxRecDepth 20000 in
theorem ggX2_givenAt_X2_isPlace : GoodIn wsX2_givenAt wsX2_isPlace := goodIn_r _ [6, 7, 8, 9, 10, 11, 12, 13, 14, 15, 16, 17] (by decide +kernel) (by decide +kernel)
set_option maxRecDepth 20000 in
theorem gX2_givenAt_X2_isPlace : GoodIn wsX2_givenAt (wsV RX2 40 RX2 yX2_isPlace wsX2_isPlace) := goodIn_app (goodIn_of _ (by decide +kernel)) ggX2_givenAt_X2_isPlace
theorem dX2_givenAt_0 : decode cX2_givenAt 0 = .ok (.aload_n 0, 1) := by decide +kernel
theorem dX2_givenAt_1 : decode cX2_givenAt 1 = .ok (.iload_n 1, 1) := by decide +kernel
theorem dX2_givenAt_2 : decode cX2_givenAt 2 = .ok (.invokevirtual 40, 3) := by decide +kernel
theorem dX2_givenAt_5 : decode cX2_givenAt 5 = .ok (.ifCond .eq 12, 3) := by decide +kernel
theorem dX2_givenAt_8 : decode cX2_givenAt 8 = .ok (.aload_n 0, 1) := by decide +kernel
theorem dX2_givenAt_9 : decode cX2_givenAt 9 = .ok (.getfield 18, 3) := by decide +kernel
theorem dX2_givenAt_12 : decode cX2_givenAt 12 = .ok (.iload_n 1, 1) := by decide +kernel
theorem dX2_givenAt_13 : decode cX2_givenAt 13 = .ok (.iaload, 1) := by decide +kernel
theorem dX2_givenAt_14 : decode cX2_givenAt 14 = .ok (.goto 4, 3) := by decide +kernel
theorem dX2_givenAt_17 : decode cX2_givenAt 17 = .ok (.iconst (-1), 1) := by decide +kernel
theorem dX2_givenAt_18 : decode cX2_givenAt 18 = .ok (.ireturn, 1) := by decide +kernel
set_option maxRecDepth 20000 in
theorem ggX2_knownAt_X2_isPlace : GoodIn wsX2_knownAt wsX2_isPlace := goodIn_r _ [6, 7, 8, 9, 10, 11, 12, 13, 14, 15, 16, 17] (by decide +kernel) (by decide +kernel)
set_option maxRecDepth 20000 in
theorem gX2_knownAt_X2_isPlace : GoodIn wsX2_knownAt (wsV RX2 40 RX2 yX2_isPlace wsX2_isPlace) := goodIn_app (goodIn_of _ (by decide +kernel)) ggX2_knownAt_X2_isPlace
theorem dX2_knownAt_0 : decode cX2_knownAt 0 = .ok (.aload_n 0, 1) := by decide +kernel
theorem dX2_knownAt_1 : decode cX2_knownAt 1 = .ok (.iload_n 1, 1) := by decide +kernel
theorem dX2_knownAt_2 : decode cX2_knownAt 2 = .ok (.invokevirtual 40, 3) := by decide +kernel
theorem dX2_knownAt_5 : decode cX2_knownAt 5 = .ok (.ifCond .eq 12, 3) := by decide +kernel
theorem dX2_knownAt_8 : decode cX2_knownAt 8 = .ok (.aload_n 0, 1) := by decide +kernel
theorem dX2_knownAt_9 : decode cX2_knownAt 9 = .ok (.getfield 21, 3) := by decide +kernel
theorem dX2_knownAt_12 : decode cX2_knownAt 12 = .ok (.iload_n 1, 1) := by decide +kernel
theorem dX2_knownAt_13 : decode cX2_knownAt 13 = .ok (.iaload, 1) := by decide +kernel
theorem dX2_knownAt_14 : decode cX2_knownAt 14 = .ok (.goto 4, 3) := by decide +kernel
theorem dX2_knownAt_17 : decode cX2_knownAt 17 = .ok (.iconst (-1), 1) := by decide +kernel
theorem dX2_knownAt_18 : decode cX2_knownAt 18 = .ok (.ireturn, 1) := by decide +kernel
set_option maxRecDepth 20000 in
theorem ggX2_registerAt_X2_isPlace : GoodIn wsX2_registerAt wsX2_isPlace := goodIn_r _ [6, 7, 8, 9, 10, 11, 12, 13, 14, 15, 16, 17] (by decide +kernel) (by decide +kernel)
set_option maxRecDepth 20000 in
theorem gX2_registerAt_X2_isPlace : GoodIn wsX2_registerAt (wsV RX2 40 RX2 yX2_isPlace wsX2_isPlace) := goodIn_app (goodIn_of _ (by decide +kernel)) ggX2_registerAt_X2_isPlace
theorem dX2_registerAt_0 : decode cX2_registerAt 0 = .ok (.aload_n 0, 1) := by decide +kernel
theorem dX2_registerAt_1 : decode cX2_registerAt 1 = .ok (.iload_n 1, 1) := by decide +kernel
theorem dX2_registerAt_2 : decode cX2_registerAt 2 = .ok (.invokevirtual 40, 3) := by decide +kernel
theorem dX2_registerAt_5 : decode cX2_registerAt 5 = .ok (.ifCond .eq 12, 3) := by decide +kernel
theorem dX2_registerAt_8 : decode cX2_registerAt 8 = .ok (.aload_n 0, 1) := by decide +kernel
theorem dX2_registerAt_9 : decode cX2_registerAt 9 = .ok (.getfield 24, 3) := by decide +kernel
theorem dX2_registerAt_12 : decode cX2_registerAt 12 = .ok (.iload_n 1, 1) := by decide +kernel
theorem dX2_registerAt_13 : decode cX2_registerAt 13 = .ok (.iaload, 1) := by decide +kernel
theorem dX2_registerAt_14 : decode cX2_registerAt 14 = .ok (.goto 4, 3) := by decide +kernel
theorem dX2_registerAt_17 : decode cX2_registerAt 17 = .ok (.iconst (-1), 1) := by decide +kernel
theorem dX2_registerAt_18 : decode cX2_registerAt 18 = .ok (.ireturn, 1) := by decide +kernel
set_option maxRecDepth 20000 in
theorem ggX2_portAt_X2_isPlace : GoodIn wsX2_portAt wsX2_isPlace := goodIn_r _ [6, 7, 8, 9, 10, 11, 12, 13, 14, 15, 16, 17] (by decide +kernel) (by decide +kernel)
set_option maxRecDepth 20000 in
theorem gX2_portAt_X2_isPlace : GoodIn wsX2_portAt (wsV RX2 40 RX2 yX2_isPlace wsX2_isPlace) := goodIn_app (goodIn_of _ (by decide +kernel)) ggX2_portAt_X2_isPlace
theorem dX2_portAt_0 : decode cX2_portAt 0 = .ok (.aload_n 0, 1) := by decide +kernel
theorem dX2_portAt_1 : decode cX2_portAt 1 = .ok (.iload_n 1, 1) := by decide +kernel
theorem dX2_portAt_2 : decode cX2_portAt 2 = .ok (.invokevirtual 40, 3) := by decide +kernel
theorem dX2_portAt_5 : decode cX2_portAt 5 = .ok (.ifCond .eq 12, 3) := by decide +kernel
theorem dX2_portAt_8 : decode cX2_portAt 8 = .ok (.aload_n 0, 1) := by decide +kernel
theorem dX2_portAt_9 : decode cX2_portAt 9 = .ok (.getfield 27, 3) := by decide +kernel
theorem dX2_portAt_12 : decode cX2_portAt 12 = .ok (.iload_n 1, 1) := by decide +kernel
theorem dX2_portAt_13 : decode cX2_portAt 13 = .ok (.iaload, 1) := by decide +kernel
theorem dX2_portAt_14 : decode cX2_portAt 14 = .ok (.goto 4, 3) := by decide +kernel
theorem dX2_portAt_17 : decode cX2_portAt 17 = .ok (.iconst (-1), 1) := by decide +kernel
theorem dX2_portAt_18 : decode cX2_portAt 18 = .ok (.ireturn, 1) := by decide +kernel
set_option maxRecDepth 20000 in
theorem ggX2_stateAt_X2_isPlace : GoodIn wsX2_stateAt wsX2_isPlace := goodIn_r _ [6, 1, 7, 8, 9, 10, 11, 12, 13, 14, 15, 16] (by decide +kernel) (by decide +kernel)
set_option maxRecDepth 20000 in
theorem gX2_stateAt_X2_isPlace : GoodIn wsX2_stateAt (wsV RX2 40 RX2 yX2_isPlace wsX2_isPlace) := goodIn_app (goodIn_of _ (by decide +kernel)) ggX2_stateAt_X2_isPlace
theorem dX2_stateAt_0 : decode cX2_stateAt 0 = .ok (.aload_n 0, 1) := by decide +kernel
theorem dX2_stateAt_1 : decode cX2_stateAt 1 = .ok (.iload_n 1, 1) := by decide +kernel
theorem dX2_stateAt_2 : decode cX2_stateAt 2 = .ok (.invokevirtual 40, 3) := by decide +kernel
theorem dX2_stateAt_5 : decode cX2_stateAt 5 = .ok (.ifCond .eq 12, 3) := by decide +kernel
theorem dX2_stateAt_8 : decode cX2_stateAt 8 = .ok (.aload_n 0, 1) := by decide +kernel
theorem dX2_stateAt_9 : decode cX2_stateAt 9 = .ok (.getfield 30, 3) := by decide +kernel
theorem dX2_stateAt_12 : decode cX2_stateAt 12 = .ok (.iload_n 1, 1) := by decide +kernel
theorem dX2_stateAt_13 : decode cX2_stateAt 13 = .ok (.iaload, 1) := by decide +kernel
theorem dX2_stateAt_14 : decode cX2_stateAt 14 = .ok (.goto 4, 3) := by decide +kernel
theorem dX2_stateAt_17 : decode cX2_stateAt 17 = .ok (.iconst (-1), 1) := by decide +kernel
theorem dX2_stateAt_18 : decode cX2_stateAt 18 = .ok (.ireturn, 1) := by decide +kernel
set_option maxRecDepth 20000 in
theorem ggX2_setPort_X2_isPlace : GoodIn wsX2_setPort wsX2_isPlace := goodIn_r _ [6, 7, 8, 9, 10, 11, 12, 13, 14, 15, 16, 17] (by decide +kernel) (by decide +kernel)
set_option maxRecDepth 20000 in
theorem gX2_setPort_X2_isPlace : GoodIn wsX2_setPort (wsV RX2 40 RX2 yX2_isPlace wsX2_isPlace) := goodIn_app (goodIn_of _ (by decide +kernel)) ggX2_setPort_X2_isPlace
theorem dX2_setPort_0 : decode cX2_setPort 0 = .ok (.aload_n 0, 1) := by decide +kernel
theorem dX2_setPort_1 : decode cX2_setPort 1 = .ok (.iload_n 1, 1) := by decide +kernel
theorem dX2_setPort_2 : decode cX2_setPort 2 = .ok (.invokevirtual 40, 3) := by decide +kernel
theorem dX2_setPort_5 : decode cX2_setPort 5 = .ok (.ifCond .eq 10, 3) := by decide +kernel
theorem dX2_setPort_8 : decode cX2_setPort 8 = .ok (.aload_n 0, 1) := by decide +kernel
theorem dX2_setPort_9 : decode cX2_setPort 9 = .ok (.getfield 27, 3) := by decide +kernel
theorem dX2_setPort_12 : decode cX2_setPort 12 = .ok (.iload_n 1, 1) := by decide +kernel
theorem dX2_setPort_13 : decode cX2_setPort 13 = .ok (.iload_n 2, 1) := by decide +kernel
theorem dX2_setPort_14 : decode cX2_setPort 14 = .ok (.iastore, 1) := by decide +kernel
theorem dX2_setPort_15 : decode cX2_setPort 15 = .ok (.return_, 1) := by decide +kernel
set_option maxRecDepth 20000 in
theorem ggX2_setState_X2_isPlace : GoodIn wsX2_setState wsX2_isPlace := goodIn_r _ [6, 1, 7, 8, 9, 10, 11, 12, 13, 14, 15, 16] (by decide +kernel) (by decide +kernel)
set_option maxRecDepth 20000 in
theorem gX2_setState_X2_isPlace : GoodIn wsX2_setState (wsV RX2 40 RX2 yX2_isPlace wsX2_isPlace) := goodIn_app (goodIn_of _ (by decide +kernel)) ggX2_setState_X2_isPlace
theorem dX2_setState_0 : decode cX2_setState 0 = .ok (.aload_n 0, 1) := by decide +kernel
theorem dX2_setState_1 : decode cX2_setState 1 = .ok (.iload_n 1, 1) := by decide +kernel
theorem dX2_setState_2 : decode cX2_setState 2 = .ok (.invokevirtual 40, 3) := by decide +kernel
theorem dX2_setState_5 : decode cX2_setState 5 = .ok (.ifCond .eq 10, 3) := by decide +kernel
theorem dX2_setState_8 : decode cX2_setState 8 = .ok (.aload_n 0, 1) := by decide +kernel
theorem dX2_setState_9 : decode cX2_setState 9 = .ok (.getfield 30, 3) := by decide +kernel
theorem dX2_setState_12 : decode cX2_setState 12 = .ok (.iload_n 1, 1) := by decide +kernel
theorem dX2_setState_13 : decode cX2_setState 13 = .ok (.iload_n 2, 1) := by decide +kernel
theorem dX2_setState_14 : decode cX2_setState 14 = .ok (.iastore, 1) := by decide +kernel
theorem dX2_setState_15 : decode cX2_setState 15 = .ok (.return_, 1) := by decide +kernel
end
section
set_option maxRecDepth 20000 in
theorem ggX3_init_X3_oneToSize : GoodIn wsX3_init wsX3_oneToSize := goodIn_r _ [23] (by decide +kernel) (by decide +kernel)
set_option maxRecDepth 20000 in
theorem gX3_init_X3_oneToSize : GoodIn wsX3_init (va_wsS RX3 9 yX3_oneToSize wsX3_oneToSize) := goodIn_app (goodIn_of _ (by decide +kernel)) ggX3_init_X3_oneToSize
set_option maxRecDepth 20000 in
theorem ggX3_init_X1_init : GoodIn wsX3_init wsX1_init := goodIn_r _ [26, 27, 2, 3, 16, 28, 29, 30, 31, 32, 49, 50, 51, 52, 53] (by decide +kernel) (by decide +kernel)
set_option maxRecDepth 20000 in
theorem gX3_init_X1_init : GoodIn wsX3_init (wsX1_init) := ggX3_init_X1_init
set_option maxRecDepth 20000 in
theorem ggX3_init_X2_init : GoodIn wsX3_init wsX2_init := goodIn_r _ [35, 36, 2, 3, 16, 37, 38, 39, 40, 41, 42, 43, 63, 64, 65, 66, 67, 68, 69, 70, 71, 72] (by decide +kernel) (by decide +kernel)
set_option maxRecDepth 20000 in
theorem gX3_init_X2_init : GoodIn wsX3_init (wsX2_init) := ggX3_init_X2_init
set_option maxRecDepth 20000 in
theorem ggX3_init_X0_init : GoodIn wsX3_init wsX0_init := goodIn_r _ [45, 46, 2, 3, 16, 47, 48, 73, 74, 75] (by decide +kernel) (by decide +kernel)
set_option maxRecDepth 20000 in
theorem gX3_init_X0_init_n33 : GoodIn wsX3_init (wsX0_init) := ggX3_init_X0_init
theorem dX3_init_0 : decode cX3_init 0 = .ok (.aload_n 0, 1) := by decide +kernel
theorem dX3_init_1 : decode cX3_init 1 = .ok (.invokespecial 1, 3) := by decide +kernel
theorem dX3_init_4 : decode cX3_init 4 = .ok (.iload_n 1, 1) := by decide +kernel
theorem dX3_init_5 : decode cX3_init 5 = .ok (.bipush 32, 2) := by decide +kernel
theorem dX3_init_7 : decode cX3_init 7 = .ok (.invokestatic 9, 3) := by decide +kernel
theorem dX3_init_10 : decode cX3_init 10 = .ok (.istore 4, 2) := by decide +kernel
theorem dX3_init_12 : decode cX3_init 12 = .ok (.aload_n 0, 1) := by decide +kernel
theorem dX3_init_13 : decode cX3_init 13 = .ok (.new 13, 3) := by decide +kernel
theorem dX3_init_16 : decode cX3_init 16 = .ok (.dup, 1) := by decide +kernel
theorem dX3_init_17 : decode cX3_init 17 = .ok (.iload 4, 2) := by decide +kernel
theorem dX3_init_19 : decode cX3_init 19 = .ok (.iload_n 2, 1) := by decide +kernel
theorem dX3_init_20 : decode cX3_init 20 = .ok (.bipush 64, 2) := by decide +kernel
theorem dX3_init_22 : decode cX3_init 22 = .ok (.invokestatic 9, 3) := by decide +kernel
theorem dX3_init_25 : decode cX3_init 25 = .ok (.invokespecial 15, 3) := by decide +kernel
theorem dX3_init_28 : decode cX3_init 28 = .ok (.putfield 18, 3) := by decide +kernel
theorem dX3_init_31 : decode cX3_init 31 = .ok (.aload_n 0, 1) := by decide +kernel
theorem dX3_init_32 : decode cX3_init 32 = .ok (.new 22, 3) := by decide +kernel
theorem dX3_init_35 : decode cX3_init 35 = .ok (.dup, 1) := by decide +kernel
theorem dX3_init_36 : decode cX3_init 36 = .ok (.iload_n 3, 1) := by decide +kernel
theorem dX3_init_37 : decode cX3_init 37 = .ok (.bipush 64, 2) := by decide +kernel
theorem dX3_init_39 : decode cX3_init 39 = .ok (.invokestatic 9, 3) := by decide +kernel
theorem dX3_init_42 : decode cX3_init 42 = .ok (.invokespecial 24, 3) := by decide +kernel
theorem dX3_init_45 : decode cX3_init 45 = .ok (.putfield 27, 3) := by decide +kernel
theorem dX3_init_48 : decode cX3_init 48 = .ok (.aload_n 0, 1) := by decide +kernel
theorem dX3_init_49 : decode cX3_init 49 = .ok (.new 31, 3) := by decide +kernel
theorem dX3_init_52 : decode cX3_init 52 = .ok (.dup, 1) := by decide +kernel
theorem dX3_init_53 : decode cX3_init 53 = .ok (.invokespecial 33, 3) := by decide +kernel
theorem dX3_init_56 : decode cX3_init 56 = .ok (.putfield 34, 3) := by decide +kernel
theorem dX3_init_59 : decode cX3_init 59 = .ok (.aload_n 0, 1) := by decide +kernel
theorem dX3_init_60 : decode cX3_init 60 = .ok (.iload 4, 2) := by decide +kernel
theorem dX3_init_62 : decode cX3_init 62 = .ok (.newarray .int, 2) := by decide +kernel
theorem dX3_init_64 : decode cX3_init 64 = .ok (.putfield 38, 3) := by decide +kernel
theorem dX3_init_67 : decode cX3_init 67 = .ok (.aload_n 0, 1) := by decide +kernel
theorem dX3_init_68 : decode cX3_init 68 = .ok (.iload 4, 2) := by decide +kernel
theorem dX3_init_70 : decode cX3_init 70 = .ok (.newarray .int, 2) := by decide +kernel
theorem dX3_init_72 : decode cX3_init 72 = .ok (.putfield 42, 3) := by decide +kernel
theorem dX3_init_75 : decode cX3_init 75 = .ok (.iconst 0, 1) := by decide +kernel
theorem dX3_init_76 : decode cX3_init 76 = .ok (.istore 5, 2) := by decide +kernel
theorem dX3_init_78 : decode cX3_init 78 = .ok (.iload 5, 2) := by decide +kernel
theorem dX3_init_80 : decode cX3_init 80 = .ok (.iload 4, 2) := by decide +kernel
theorem dX3_init_82 : decode cX3_init 82 = .ok (.if_icmp .ge 27, 3) := by decide +kernel
theorem dX3_init_85 : decode cX3_init 85 = .ok (.aload_n 0, 1) := by decide +kernel
theorem dX3_init_86 : decode cX3_init 86 = .ok (.getfield 38, 3) := by decide +kernel
theorem dX3_init_89 : decode cX3_init 89 = .ok (.iload 5, 2) := by decide +kernel
theorem dX3_init_91 : decode cX3_init 91 = .ok (.iload 5, 2) := by decide +kernel
theorem dX3_init_93 : decode cX3_init 93 = .ok (.iastore, 1) := by decide +kernel
theorem dX3_init_94 : decode cX3_init 94 = .ok (.aload_n 0, 1) := by decide +kernel
theorem dX3_init_95 : decode cX3_init 95 = .ok (.getfield 42, 3) := by decide +kernel
theorem dX3_init_98 : decode cX3_init 98 = .ok (.iload 5, 2) := by decide +kernel
theorem dX3_init_100 : decode cX3_init 100 = .ok (.iload 5, 2) := by decide +kernel
theorem dX3_init_102 : decode cX3_init 102 = .ok (.iastore, 1) := by decide +kernel
theorem dX3_init_103 : decode cX3_init 103 = .ok (.iinc 5 1, 3) := by decide +kernel
theorem dX3_init_106 : decode cX3_init 106 = .ok (.goto (-28), 3) := by decide +kernel
theorem dX3_init_109 : decode cX3_init 109 = .ok (.aload_n 0, 1) := by decide +kernel
theorem dX3_init_110 : decode cX3_init 110 = .ok (.bipush 8, 2) := by decide +kernel
theorem dX3_init_112 : decode cX3_init 112 = .ok (.newarray .int, 2) := by decide +kernel
theorem dX3_init_114 : decode cX3_init 114 = .ok (.putfield 45, 3) := by decide +kernel
theorem dX3_init_117 : decode cX3_init 117 = .ok (.iconst 0, 1) := by decide +kernel
theorem dX3_init_118 : decode cX3_init 118 = .ok (.istore 5, 2) := by decide +kernel
theorem dX3_init_120 : decode cX3_init 120 = .ok (.iload 5, 2) := by decide +kernel
theorem dX3_init_122 : decode cX3_init 122 = .ok (.bipush 8, 2) := by decide +kernel
theorem dX3_init_124 : decode cX3_init 124 = .ok (.if_icmp .ge 17, 3) := by decide +kernel
theorem dX3_init_127 : decode cX3_init 127 = .ok (.aload_n 0, 1) := by decide +kernel
theorem dX3_init_128 : decode cX3_init 128 = .ok (.getfield 45, 3) := by decide +kernel
theorem dX3_init_131 : decode cX3_init 131 = .ok (.iload 5, 2) := by decide +kernel
theorem dX3_init_133 : decode cX3_init 133 = .ok (.iconst (-1), 1) := by decide +kernel
theorem dX3_init_134 : decode cX3_init 134 = .ok (.iastore, 1) := by decide +kernel
theorem dX3_init_135 : decode cX3_init 135 = .ok (.iinc 5 1, 3) := by decide +kernel
theorem dX3_init_138 : decode cX3_init 138 = .ok (.goto (-18), 3) := by decide +kernel
theorem dX3_init_141 : decode cX3_init 141 = .ok (.return_, 1) := by decide +kernel
set_option maxRecDepth 20000 in
theorem ggX3_dispatch_X3_isRegisterOrNone : GoodIn wsX3_dispatch wsX3_isRegisterOrNone := goodIn_r _ [12, 13, 14, 15, 11, 16, 17, 73, 74, 75, 76, 77, 78, 79, 80, 81] (by decide +kernel) (by decide +kernel)
set_option maxRecDepth 20000 in
theorem gX3_dispatch_X3_isRegisterOrNone : GoodIn wsX3_dispatch (wsV RX3 48 RX3 yX3_isRegisterOrNone wsX3_isRegisterOrNone) := goodIn_app (goodIn_of _ (by decide +kernel)) ggX3_dispatch_X3_isRegisterOrNone
set_option maxRecDepth 20000 in
theorem ggX3_dispatch_X2_isFull : GoodIn wsX3_dispatch wsX2_isFull := goodIn_r _ [22, 23, 24, 82, 83, 84, 85, 86, 87, 88, 89, 90, 91] (by decide +kernel) (by decide +kernel)
set_option maxRecDepth 20000 in
theorem gX3_dispatch_X2_isFull : GoodIn wsX3_dispatch (wsV RX3 59 RX2 yX2_isFull wsX2_isFull) := goodIn_app (goodIn_of _ (by decide +kernel)) ggX3_dispatch_X2_isFull
set_option maxRecDepth 20000 in
theorem ggX3_dispatch_X1_freeCount : GoodIn wsX3_dispatch wsX1_freeCount := goodIn_r _ [29, 30, 92, 93, 94, 95, 96] (by decide +kernel) (by decide +kernel)
set_option maxRecDepth 20000 in
theorem gX3_dispatch_X1_freeCount : GoodIn wsX3_dispatch (wsV RX3 67 RX1 yX1_freeCount wsX1_freeCount) := goodIn_app (goodIn_of _ (by decide +kernel)) ggX3_dispatch_X1_freeCount
set_option maxRecDepth 20000 in
theorem ggX3_dispatch_X3_currentName : GoodIn wsX3_dispatch wsX3_currentName := goodIn_r _ [34, 17, 13, 14, 15, 11, 16, 73, 74, 75, 76, 77, 78, 79, 80, 81] (by decide +kernel) (by decide +kernel)
set_option maxRecDepth 20000 in
theorem gX3_dispatch_X3_currentName : GoodIn wsX3_dispatch (wsV RX3 74 RX3 yX3_currentName wsX3_currentName) := goodIn_app (goodIn_of _ (by decide +kernel)) ggX3_dispatch_X3_currentName
set_option maxRecDepth 20000 in
theorem ggX3_dispatch_X1_takeFirstFree : GoodIn wsX3_dispatch wsX1_takeFirstFree := goodIn_r _ [38, 30, 39, 40, 41, 42, 43, 44, 45, 28, 46, 92, 93, 94, 95, 96] (by decide +kernel) (by decide +kernel)
set_option maxRecDepth 20000 in
theorem gX3_dispatch_X1_takeFirstFree : GoodIn wsX3_dispatch (wsV RX3 78 RX1 yX1_takeFirstFree wsX1_takeFirstFree) := goodIn_app (goodIn_of _ (by decide +kernel)) ggX3_dispatch_X1_takeFirstFree
set_option maxRecDepth 20000 in
theorem ggX3_dispatch_X3_appendRow : GoodIn wsX3_dispatch wsX3_appendRow := goodIn_r _ [50, 4, 17, 31, 32, 33, 11, 34, 13, 14, 15, 16, 51, 52, 53, 21, 54, 23, 55, 56, 57, 58, 59, 60, 24, 61, 19, 20, 22, 62, 63, 64, 65, 66, 73, 74, 75, 76, 77, 78, 79, 80, 81, 82, 83, 84, 85, 86, 87, 88, 89, 90, 91] (by decide +kernel) (by decide +kernel)
set_option maxRecDepth 20000 in
theorem gX3_dispatch_X3_appendRow : GoodIn wsX3_dispatch (wsV RX3 81 RX3 yX3_appendRow wsX3_appendRow) := goodIn_app (goodIn_of _ (by decide +kernel)) ggX3_dispatch_X3_appendRow
theorem dX3_dispatch_0 : decode cX3_dispatch 0 = .ok (.aload_n 0, 1) := by decide +kernel
theorem dX3_dispatch_1 : decode cX3_dispatch 1 = .ok (.iload_n 1, 1) := by decide +kernel
theorem dX3_dispatch_2 : decode cX3_dispatch 2 = .ok (.invokevirtual 48, 3) := by decide +kernel
theorem dX3_dispatch_5 : decode cX3_dispatch 5 = .ok (.ifCond .eq 19, 3) := by decide +kernel
theorem dX3_dispatch_8 : decode cX3_dispatch 8 = .ok (.aload_n 0, 1) := by decide +kernel
theorem dX3_dispatch_9 : decode cX3_dispatch 9 = .ok (.iload_n 2, 1) := by decide +kernel
theorem dX3_dispatch_10 : decode cX3_dispatch 10 = .ok (.invokevirtual 48, 3) := by decide +kernel
theorem dX3_dispatch_13 : decode cX3_dispatch 13 = .ok (.ifCond .eq 11, 3) := by decide +kernel
theorem dX3_dispatch_16 : decode cX3_dispatch 16 = .ok (.aload_n 0, 1) := by decide +kernel
theorem dX3_dispatch_17 : decode cX3_dispatch 17 = .ok (.iload_n 3, 1) := by decide +kernel
theorem dX3_dispatch_18 : decode cX3_dispatch 18 = .ok (.invokevirtual 48, 3) := by decide +kernel
theorem dX3_dispatch_21 : decode cX3_dispatch 21 = .ok (.ifCond .ne 13, 3) := by decide +kernel
theorem dX3_dispatch_24 : decode cX3_dispatch 24 = .ok (.new 52, 3) := by decide +kernel
theorem dX3_dispatch_27 : decode cX3_dispatch 27 = .ok (.dup, 1) := by decide +kernel
theorem dX3_dispatch_28 : decode cX3_dispatch 28 = .ok (.ldc 54, 2) := by decide +kernel
theorem dX3_dispatch_30 : decode cX3_dispatch 30 = .ok (.invokespecial 56, 3) := by decide +kernel
theorem dX3_dispatch_33 : decode cX3_dispatch 33 = .ok (.athrow, 1) := by decide +kernel
theorem dX3_dispatch_34 : decode cX3_dispatch 34 = .ok (.aload_n 0, 1) := by decide +kernel
theorem dX3_dispatch_35 : decode cX3_dispatch 35 = .ok (.getfield 27, 3) := by decide +kernel
theorem dX3_dispatch_38 : decode cX3_dispatch 38 = .ok (.invokevirtual 59, 3) := by decide +kernel
theorem dX3_dispatch_41 : decode cX3_dispatch 41 = .ok (.ifCond .eq 15, 3) := by decide +kernel
theorem dX3_dispatch_44 : decode cX3_dispatch 44 = .ok (.aload_n 0, 1) := by decide +kernel
theorem dX3_dispatch_45 : decode cX3_dispatch 45 = .ok (.dup, 1) := by decide +kernel
theorem dX3_dispatch_46 : decode cX3_dispatch 46 = .ok (.getfield 63, 3) := by decide +kernel
theorem dX3_dispatch_49 : decode cX3_dispatch 49 = .ok (.iconst 1, 1) := by decide +kernel
theorem dX3_dispatch_50 : decode cX3_dispatch 50 = .ok (.iadd, 1) := by decide +kernel
theorem dX3_dispatch_51 : decode cX3_dispatch 51 = .ok (.putfield 63, 3) := by decide +kernel
theorem dX3_dispatch_54 : decode cX3_dispatch 54 = .ok (.iconst (-1), 1) := by decide +kernel
theorem dX3_dispatch_55 : decode cX3_dispatch 55 = .ok (.ireturn, 1) := by decide +kernel
theorem dX3_dispatch_56 : decode cX3_dispatch 56 = .ok (.iload_n 3, 1) := by decide +kernel
theorem dX3_dispatch_57 : decode cX3_dispatch 57 = .ok (.iconst (-1), 1) := by decide +kernel
theorem dX3_dispatch_58 : decode cX3_dispatch 58 = .ok (.if_icmp .eq 25, 3) := by decide +kernel
theorem dX3_dispatch_61 : decode cX3_dispatch 61 = .ok (.aload_n 0, 1) := by decide +kernel
theorem dX3_dispatch_62 : decode cX3_dispatch 62 = .ok (.getfield 18, 3) := by decide +kernel
theorem dX3_dispatch_65 : decode cX3_dispatch 65 = .ok (.invokevirtual 67, 3) := by decide +kernel
theorem dX3_dispatch_68 : decode cX3_dispatch 68 = .ok (.ifCond .ne 15, 3) := by decide +kernel
theorem dX3_dispatch_71 : decode cX3_dispatch 71 = .ok (.aload_n 0, 1) := by decide +kernel
theorem dX3_dispatch_72 : decode cX3_dispatch 72 = .ok (.dup, 1) := by decide +kernel
theorem dX3_dispatch_73 : decode cX3_dispatch 73 = .ok (.getfield 71, 3) := by decide +kernel
theorem dX3_dispatch_76 : decode cX3_dispatch 76 = .ok (.iconst 1, 1) := by decide +kernel
theorem dX3_dispatch_77 : decode cX3_dispatch 77 = .ok (.iadd, 1) := by decide +kernel
theorem dX3_dispatch_78 : decode cX3_dispatch 78 = .ok (.putfield 71, 3) := by decide +kernel
theorem dX3_dispatch_81 : decode cX3_dispatch 81 = .ok (.iconst (-1), 1) := by decide +kernel
theorem dX3_dispatch_82 : decode cX3_dispatch 82 = .ok (.ireturn, 1) := by decide +kernel
theorem dX3_dispatch_83 : decode cX3_dispatch 83 = .ok (.aload_n 0, 1) := by decide +kernel
theorem dX3_dispatch_84 : decode cX3_dispatch 84 = .ok (.iload_n 1, 1) := by decide +kernel
theorem dX3_dispatch_85 : decode cX3_dispatch 85 = .ok (.invokevirtual 74, 3) := by decide +kernel
theorem dX3_dispatch_88 : decode cX3_dispatch 88 = .ok (.istore 4, 2) := by decide +kernel
theorem dX3_dispatch_90 : decode cX3_dispatch 90 = .ok (.aload_n 0, 1) := by decide +kernel
theorem dX3_dispatch_91 : decode cX3_dispatch 91 = .ok (.iload_n 2, 1) := by decide +kernel
theorem dX3_dispatch_92 : decode cX3_dispatch 92 = .ok (.invokevirtual 74, 3) := by decide +kernel
theorem dX3_dispatch_95 : decode cX3_dispatch 95 = .ok (.istore 5, 2) := by decide +kernel
theorem dX3_dispatch_97 : decode cX3_dispatch 97 = .ok (.iload_n 3, 1) := by decide +kernel
theorem dX3_dispatch_98 : decode cX3_dispatch 98 = .ok (.iconst (-1), 1) := by decide +kernel
theorem dX3_dispatch_99 : decode cX3_dispatch 99 = .ok (.if_icmp .ne 7, 3) := by decide +kernel
theorem dX3_dispatch_102 : decode cX3_dispatch 102 = .ok (.iconst (-1), 1) := by decide +kernel
theorem dX3_dispatch_103 : decode cX3_dispatch 103 = .ok (.goto 10, 3) := by decide +kernel
theorem dX3_dispatch_106 : decode cX3_dispatch 106 = .ok (.aload_n 0, 1) := by decide +kernel
theorem dX3_dispatch_107 : decode cX3_dispatch 107 = .ok (.getfield 18, 3) := by decide +kernel
theorem dX3_dispatch_110 : decode cX3_dispatch 110 = .ok (.invokevirtual 78, 3) := by decide +kernel
theorem dX3_dispatch_113 : decode cX3_dispatch 113 = .ok (.istore 6, 2) := by decide +kernel
theorem dX3_dispatch_115 : decode cX3_dispatch 115 = .ok (.aload_n 0, 1) := by decide +kernel
theorem dX3_dispatch_116 : decode cX3_dispatch 116 = .ok (.iload 4, 2) := by decide +kernel
theorem dX3_dispatch_118 : decode cX3_dispatch 118 = .ok (.iload 5, 2) := by decide +kernel
theorem dX3_dispatch_120 : decode cX3_dispatch 120 = .ok (.iload 6, 2) := by decide +kernel
theorem dX3_dispatch_122 : decode cX3_dispatch 122 = .ok (.iload_n 3, 1) := by decide +kernel
theorem dX3_dispatch_123 : decode cX3_dispatch 123 = .ok (.iconst 0, 1) := by decide +kernel
theorem dX3_dispatch_124 : decode cX3_dispatch 124 = .ok (.invokevirtual 81, 3) := by decide +kernel
theorem dX3_dispatch_127 : decode cX3_dispatch 127 = .ok (.ireturn, 1) := by decide +kernel
set_option maxRecDepth 20000 in
theorem ggX3_move_X3_isRegister : GoodIn wsX3_move wsX3_isRegister := goodIn_r _ [11, 12, 60, 61, 62, 63, 64, 65, 66, 67, 68] (by decide +kernel) (by decide +kernel)
set_option maxRecDepth 20000 in
theorem gX3_move_X3_isRegister : GoodIn wsX3_move (wsV RX3 85 RX3 yX3_isRegister wsX3_isRegister) := goodIn_app (goodIn_of _ (by decide +kernel)) ggX3_move_X3_isRegister
set_option maxRecDepth 20000 in
theorem ggX3_move_X2_isFull : GoodIn wsX3_move wsX2_isFull := goodIn_r _ [17, 18, 19, 69, 70, 71, 72, 73, 74, 75, 76, 77, 78] (by decide +kernel) (by decide +kernel)
set_option maxRecDepth 20000 in
theorem gX3_move_X2_isFull : GoodIn wsX3_move (wsV RX3 59 RX2 yX2_isFull wsX2_isFull) := goodIn_app (goodIn_of _ (by decide +kernel)) ggX3_move_X2_isFull
set_option maxRecDepth 20000 in
theorem ggX3_move_X3_currentName : GoodIn wsX3_move wsX3_currentName := goodIn_r _ [23, 12, 7, 8, 9, 10, 11, 60, 61, 62, 63, 64, 65, 66, 67, 68] (by decide +kernel) (by decide +kernel)
set_option maxRecDepth 20000 in
theorem gX3_move_X3_currentName : GoodIn wsX3_move (wsV RX3 74 RX3 yX3_currentName wsX3_currentName) := goodIn_app (goodIn_of _ (by decide +kernel)) ggX3_move_X3_currentName
set_option maxRecDepth 20000 in
theorem ggX3_move_X1_addShare : GoodIn wsX3_move wsX1_addShare := goodIn_r _ [28, 29, 30, 31, 32, 27, 33, 79, 80, 81, 82, 83] (by decide +kernel) (by decide +kernel)
set_option maxRecDepth 20000 in
theorem gX3_move_X1_addShare : GoodIn wsX3_move (wsV RX3 88 RX1 yX1_addShare wsX1_addShare) := goodIn_app (goodIn_of _ (by decide +kernel)) ggX3_move_X1_addShare
set_option maxRecDepth 20000 in
theorem ggX3_move_X3_appendRow : GoodIn wsX3_move wsX3_appendRow := goodIn_r _ [37, 4, 12, 20, 21, 22, 10, 23, 7, 8, 9, 11, 38, 39, 40, 16, 41, 18, 42, 43, 44, 45, 46, 47, 19, 48, 14, 15, 17, 49, 50, 51, 52, 53, 60, 61, 62, 63, 64, 65, 66, 67, 68, 69, 70, 71, 72, 73, 74, 75, 76, 77, 78] (by decide +kernel) (by decide +kernel)
set_option maxRecDepth 20000 in
theorem gX3_move_X3_appendRow : GoodIn wsX3_move (wsV RX3 81 RX3 yX3_appendRow wsX3_appendRow) := goodIn_app (goodIn_of _ (by decide +kernel)) ggX3_move_X3_appendRow
theorem dX3_move_0 : decode cX3_move 0 = .ok (.aload_n 0, 1) := by decide +kernel
theorem dX3_move_1 : decode cX3_move 1 = .ok (.iload_n 1, 1) := by decide +kernel
theorem dX3_move_2 : decode cX3_move 2 = .ok (.invokevirtual 85, 3) := by decide +kernel
theorem dX3_move_5 : decode cX3_move 5 = .ok (.ifCond .eq 11, 3) := by decide +kernel
theorem dX3_move_8 : decode cX3_move 8 = .ok (.aload_n 0, 1) := by decide +kernel
theorem dX3_move_9 : decode cX3_move 9 = .ok (.iload_n 2, 1) := by decide +kernel
theorem dX3_move_10 : decode cX3_move 10 = .ok (.invokevirtual 85, 3) := by decide +kernel
theorem dX3_move_13 : decode cX3_move 13 = .ok (.ifCond .ne 13, 3) := by decide +kernel
theorem dX3_move_16 : decode cX3_move 16 = .ok (.new 52, 3) := by decide +kernel
theorem dX3_move_19 : decode cX3_move 19 = .ok (.dup, 1) := by decide +kernel
theorem dX3_move_20 : decode cX3_move 20 = .ok (.ldc 54, 2) := by decide +kernel
theorem dX3_move_22 : decode cX3_move 22 = .ok (.invokespecial 56, 3) := by decide +kernel
theorem dX3_move_25 : decode cX3_move 25 = .ok (.athrow, 1) := by decide +kernel
theorem dX3_move_26 : decode cX3_move 26 = .ok (.aload_n 0, 1) := by decide +kernel
theorem dX3_move_27 : decode cX3_move 27 = .ok (.getfield 27, 3) := by decide +kernel
theorem dX3_move_30 : decode cX3_move 30 = .ok (.invokevirtual 59, 3) := by decide +kernel
theorem dX3_move_33 : decode cX3_move 33 = .ok (.ifCond .eq 15, 3) := by decide +kernel
theorem dX3_move_36 : decode cX3_move 36 = .ok (.aload_n 0, 1) := by decide +kernel
theorem dX3_move_37 : decode cX3_move 37 = .ok (.dup, 1) := by decide +kernel
theorem dX3_move_38 : decode cX3_move 38 = .ok (.getfield 63, 3) := by decide +kernel
theorem dX3_move_41 : decode cX3_move 41 = .ok (.iconst 1, 1) := by decide +kernel
theorem dX3_move_42 : decode cX3_move 42 = .ok (.iadd, 1) := by decide +kernel
theorem dX3_move_43 : decode cX3_move 43 = .ok (.putfield 63, 3) := by decide +kernel
theorem dX3_move_46 : decode cX3_move 46 = .ok (.iconst (-1), 1) := by decide +kernel
theorem dX3_move_47 : decode cX3_move 47 = .ok (.ireturn, 1) := by decide +kernel
theorem dX3_move_48 : decode cX3_move 48 = .ok (.aload_n 0, 1) := by decide +kernel
theorem dX3_move_49 : decode cX3_move 49 = .ok (.iload_n 1, 1) := by decide +kernel
theorem dX3_move_50 : decode cX3_move 50 = .ok (.invokevirtual 74, 3) := by decide +kernel
theorem dX3_move_53 : decode cX3_move 53 = .ok (.istore_n 3, 1) := by decide +kernel
theorem dX3_move_54 : decode cX3_move 54 = .ok (.aload_n 0, 1) := by decide +kernel
theorem dX3_move_55 : decode cX3_move 55 = .ok (.getfield 18, 3) := by decide +kernel
theorem dX3_move_58 : decode cX3_move 58 = .ok (.iload_n 3, 1) := by decide +kernel
theorem dX3_move_59 : decode cX3_move 59 = .ok (.invokevirtual 88, 3) := by decide +kernel
theorem dX3_move_62 : decode cX3_move 62 = .ok (.aload_n 0, 1) := by decide +kernel
theorem dX3_move_63 : decode cX3_move 63 = .ok (.iload_n 3, 1) := by decide +kernel
theorem dX3_move_64 : decode cX3_move 64 = .ok (.iconst (-1), 1) := by decide +kernel
theorem dX3_move_65 : decode cX3_move 65 = .ok (.iload_n 3, 1) := by decide +kernel
theorem dX3_move_66 : decode cX3_move 66 = .ok (.iload_n 2, 1) := by decide +kernel
theorem dX3_move_67 : decode cX3_move 67 = .ok (.iconst 2, 1) := by decide +kernel
theorem dX3_move_68 : decode cX3_move 68 = .ok (.invokevirtual 81, 3) := by decide +kernel
theorem dX3_move_71 : decode cX3_move 71 = .ok (.ireturn, 1) := by decide +kernel
set_option maxRecDepth 20000 in
theorem ggX3_port_X2_isPlace : GoodIn wsX3_port wsX2_isPlace := goodIn_r _ [13, 14, 54, 55, 56, 57, 58, 59, 60, 61, 62, 63] (by decide +kernel) (by decide +kernel)
set_option maxRecDepth 20000 in
theorem gX3_port_X2_isPlace : GoodIn wsX3_port (wsV RX3 91 RX2 yX2_isPlace wsX2_isPlace) := goodIn_app (goodIn_of _ (by decide +kernel)) ggX3_port_X2_isPlace
set_option maxRecDepth 20000 in
theorem ggX3_port_X2_isInState : GoodIn wsX3_port wsX2_isInState := goodIn_r _ [18, 14, 19, 20, 21, 12, 22, 23, 24, 10, 11, 13, 25, 26, 27, 28, 29, 54, 55, 56, 57, 58, 59, 60, 61, 62, 63] (by decide +kernel) (by decide +kernel)
set_option maxRecDepth 20000 in
theorem gX3_port_X2_isInState : GoodIn wsX3_port (wsV RX3 96 RX2 yX2_isInState wsX2_isInState) := goodIn_app (goodIn_of _ (by decide +kernel)) ggX3_port_X2_isInState
set_option maxRecDepth 20000 in
theorem ggX3_port_X2_portAt : GoodIn wsX3_port wsX2_portAt := goodIn_r _ [33, 34, 24, 10, 11, 12, 13, 14, 54, 55, 56, 57, 58, 59, 60, 61, 62, 63] (by decide +kernel) (by decide +kernel)
set_option maxRecDepth 20000 in
theorem gX3_port_X2_portAt : GoodIn wsX3_port (wsV RX3 110 RX2 yX2_portAt wsX2_portAt) := goodIn_app (goodIn_of _ (by decide +kernel)) ggX3_port_X2_portAt
set_option maxRecDepth 20000 in
theorem ggX3_port_X2_setPort : GoodIn wsX3_port wsX2_setPort := goodIn_r _ [38, 34, 24, 10, 11, 12, 13, 14, 54, 55, 56, 57, 58, 59, 60, 61, 62, 63] (by decide +kernel) (by decide +kernel)
set_option maxRecDepth 20000 in
theorem gX3_port_X2_setPort : GoodIn wsX3_port (wsV RX3 113 RX2 yX2_setPort wsX2_setPort) := goodIn_app (goodIn_of _ (by decide +kernel)) ggX3_port_X2_setPort
theorem dX3_port_0 : decode cX3_port 0 = .ok (.aload_n 0, 1) := by decide +kernel
theorem dX3_port_1 : decode cX3_port 1 = .ok (.getfield 27, 3) := by decide +kernel
theorem dX3_port_4 : decode cX3_port 4 = .ok (.iload_n 1, 1) := by decide +kernel
theorem dX3_port_5 : decode cX3_port 5 = .ok (.invokevirtual 91, 3) := by decide +kernel
theorem dX3_port_8 : decode cX3_port 8 = .ok (.ifCond .ne 13, 3) := by decide +kernel
theorem dX3_port_11 : decode cX3_port 11 = .ok (.new 52, 3) := by decide +kernel
theorem dX3_port_14 : decode cX3_port 14 = .ok (.dup, 1) := by decide +kernel
theorem dX3_port_15 : decode cX3_port 15 = .ok (.ldc 94, 2) := by decide +kernel
theorem dX3_port_17 : decode cX3_port 17 = .ok (.invokespecial 56, 3) := by decide +kernel
theorem dX3_port_20 : decode cX3_port 20 = .ok (.athrow, 1) := by decide +kernel
theorem dX3_port_21 : decode cX3_port 21 = .ok (.aload_n 0, 1) := by decide +kernel
theorem dX3_port_22 : decode cX3_port 22 = .ok (.getfield 27, 3) := by decide +kernel
theorem dX3_port_25 : decode cX3_port 25 = .ok (.iload_n 1, 1) := by decide +kernel
theorem dX3_port_26 : decode cX3_port 26 = .ok (.iconst 0, 1) := by decide +kernel
theorem dX3_port_27 : decode cX3_port 27 = .ok (.invokevirtual 96, 3) := by decide +kernel
theorem dX3_port_30 : decode cX3_port 30 = .ok (.ifCond .ne 13, 3) := by decide +kernel
theorem dX3_port_33 : decode cX3_port 33 = .ok (.new 100, 3) := by decide +kernel
theorem dX3_port_36 : decode cX3_port 36 = .ok (.dup, 1) := by decide +kernel
theorem dX3_port_37 : decode cX3_port 37 = .ok (.ldc 102, 2) := by decide +kernel
theorem dX3_port_39 : decode cX3_port 39 = .ok (.invokespecial 104, 3) := by decide +kernel
theorem dX3_port_42 : decode cX3_port 42 = .ok (.athrow, 1) := by decide +kernel
theorem dX3_port_43 : decode cX3_port 43 = .ok (.iload_n 2, 1) := by decide +kernel
theorem dX3_port_44 : decode cX3_port 44 = .ok (.ifCond .lt 9, 3) := by decide +kernel
theorem dX3_port_47 : decode cX3_port 47 = .ok (.iload_n 2, 1) := by decide +kernel
theorem dX3_port_48 : decode cX3_port 48 = .ok (.bipush 8, 2) := by decide +kernel
theorem dX3_port_50 : decode cX3_port 50 = .ok (.if_icmp .lt 13, 3) := by decide +kernel
theorem dX3_port_53 : decode cX3_port 53 = .ok (.new 105, 3) := by decide +kernel
theorem dX3_port_56 : decode cX3_port 56 = .ok (.dup, 1) := by decide +kernel
theorem dX3_port_57 : decode cX3_port 57 = .ok (.ldc 107, 2) := by decide +kernel
theorem dX3_port_59 : decode cX3_port 59 = .ok (.invokespecial 109, 3) := by decide +kernel
theorem dX3_port_62 : decode cX3_port 62 = .ok (.athrow, 1) := by decide +kernel
theorem dX3_port_63 : decode cX3_port 63 = .ok (.aload_n 0, 1) := by decide +kernel
theorem dX3_port_64 : decode cX3_port 64 = .ok (.getfield 27, 3) := by decide +kernel
theorem dX3_port_67 : decode cX3_port 67 = .ok (.iload_n 1, 1) := by decide +kernel
theorem dX3_port_68 : decode cX3_port 68 = .ok (.invokevirtual 110, 3) := by decide +kernel
theorem dX3_port_71 : decode cX3_port 71 = .ok (.istore_n 3, 1) := by decide +kernel
theorem dX3_port_72 : decode cX3_port 72 = .ok (.aload_n 0, 1) := by decide +kernel
theorem dX3_port_73 : decode cX3_port 73 = .ok (.getfield 27, 3) := by decide +kernel
theorem dX3_port_76 : decode cX3_port 76 = .ok (.iload_n 1, 1) := by decide +kernel
theorem dX3_port_77 : decode cX3_port 77 = .ok (.iload_n 2, 1) := by decide +kernel
theorem dX3_port_78 : decode cX3_port 78 = .ok (.invokevirtual 113, 3) := by decide +kernel
theorem dX3_port_81 : decode cX3_port 81 = .ok (.iload_n 3, 1) := by decide +kernel
theorem dX3_port_82 : decode cX3_port 82 = .ok (.ireturn, 1) := by decide +kernel
set_option maxRecDepth 20000 in
theorem ggX3_select_X3_oldestAbleFor : GoodIn wsX3_select wsX3_oldestAbleFor := goodIn_r _ [9, 4, 10, 11, 12, 13, 14, 15, 16, 17, 18, 19, 20, 21, 22, 23, 24, 25, 26, 27, 28, 29, 30, 31, 32, 33, 8, 34, 35, 36, 37, 38, 39, 40, 41, 42, 43, 44, 45, 46, 47, 48, 49, 50, 51, 52, 53, 54, 55, 56, 57, 58, 59, 60, 61, 62, 63, 64, 65, 66, 67, 68, 73, 74, 75, 76, 77, 78, 79, 80, 81, 82, 83, 84, 85, 86, 87, 88, 89, 90, 91, 92, 93, 94, 95, 96] (by decide +kernel) (by decide +kernel)
set_option maxRecDepth 20000 in
theorem gX3_select_X3_oldestAbleFor : GoodIn wsX3_select (wsV RX3 118 RX3 yX3_oldestAbleFor wsX3_oldestAbleFor) := goodIn_app (goodIn_of _ (by decide +kernel)) ggX3_select_X3_oldestAbleFor
set_option maxRecDepth 20000 in
theorem ggX3_select_X2_setState : GoodIn wsX3_select wsX2_setState := goodIn_r _ [72, 21, 27, 28, 29, 13, 30, 82, 83, 84, 85, 86, 87, 88, 89, 90, 91] (by decide +kernel) (by decide +kernel)
set_option maxRecDepth 20000 in
theorem gX3_select_X2_setState : GoodIn wsX3_select (wsV RX3 121 RX2 yX2_setState wsX2_setState) := goodIn_app (goodIn_of _ (by decide +kernel)) ggX3_select_X2_setState
theorem dX3_select_0 : decode cX3_select 0 = .ok (.iload_n 1, 1) := by decide +kernel
theorem dX3_select_1 : decode cX3_select 1 = .ok (.iconst 1, 1) := by decide +kernel
theorem dX3_select_2 : decode cX3_select 2 = .ok (.if_icmp .lt 9, 3) := by decide +kernel
theorem dX3_select_5 : decode cX3_select 5 = .ok (.iload_n 1, 1) := by decide +kernel
theorem dX3_select_6 : decode cX3_select 6 = .ok (.bipush 8, 2) := by decide +kernel
theorem dX3_select_8 : decode cX3_select 8 = .ok (.if_icmp .le 13, 3) := by decide +kernel
theorem dX3_select_11 : decode cX3_select 11 = .ok (.new 105, 3) := by decide +kernel
theorem dX3_select_14 : decode cX3_select 14 = .ok (.dup, 1) := by decide +kernel
theorem dX3_select_15 : decode cX3_select 15 = .ok (.ldc 116, 2) := by decide +kernel
theorem dX3_select_17 : decode cX3_select 17 = .ok (.invokespecial 109, 3) := by decide +kernel
theorem dX3_select_20 : decode cX3_select 20 = .ok (.athrow, 1) := by decide +kernel
theorem dX3_select_21 : decode cX3_select 21 = .ok (.iconst 0, 1) := by decide +kernel
theorem dX3_select_22 : decode cX3_select 22 = .ok (.istore_n 2, 1) := by decide +kernel
theorem dX3_select_23 : decode cX3_select 23 = .ok (.iconst 0, 1) := by decide +kernel
theorem dX3_select_24 : decode cX3_select 24 = .ok (.istore_n 3, 1) := by decide +kernel
theorem dX3_select_25 : decode cX3_select 25 = .ok (.iload_n 3, 1) := by decide +kernel
theorem dX3_select_26 : decode cX3_select 26 = .ok (.bipush 8, 2) := by decide +kernel
theorem dX3_select_28 : decode cX3_select 28 = .ok (.if_icmp .ge 52, 3) := by decide +kernel
theorem dX3_select_31 : decode cX3_select 31 = .ok (.iload_n 3, 1) := by decide +kernel
theorem dX3_select_32 : decode cX3_select 32 = .ok (.iload_n 1, 1) := by decide +kernel
theorem dX3_select_33 : decode cX3_select 33 = .ok (.if_icmp .ge 11, 3) := by decide +kernel
theorem dX3_select_36 : decode cX3_select 36 = .ok (.aload_n 0, 1) := by decide +kernel
theorem dX3_select_37 : decode cX3_select 37 = .ok (.iload_n 3, 1) := by decide +kernel
theorem dX3_select_38 : decode cX3_select 38 = .ok (.invokevirtual 118, 3) := by decide +kernel
theorem dX3_select_41 : decode cX3_select 41 = .ok (.goto 4, 3) := by decide +kernel
theorem dX3_select_44 : decode cX3_select 44 = .ok (.iconst (-1), 1) := by decide +kernel
theorem dX3_select_45 : decode cX3_select 45 = .ok (.istore 4, 2) := by decide +kernel
theorem dX3_select_47 : decode cX3_select 47 = .ok (.aload_n 0, 1) := by decide +kernel
theorem dX3_select_48 : decode cX3_select 48 = .ok (.getfield 45, 3) := by decide +kernel
theorem dX3_select_51 : decode cX3_select 51 = .ok (.iload_n 3, 1) := by decide +kernel
theorem dX3_select_52 : decode cX3_select 52 = .ok (.iload 4, 2) := by decide +kernel
theorem dX3_select_54 : decode cX3_select 54 = .ok (.iastore, 1) := by decide +kernel
theorem dX3_select_55 : decode cX3_select 55 = .ok (.iload 4, 2) := by decide +kernel
theorem dX3_select_57 : decode cX3_select 57 = .ok (.iconst (-1), 1) := by decide +kernel
theorem dX3_select_58 : decode cX3_select 58 = .ok (.if_icmp .eq 16, 3) := by decide +kernel
theorem dX3_select_61 : decode cX3_select 61 = .ok (.aload_n 0, 1) := by decide +kernel
theorem dX3_select_62 : decode cX3_select 62 = .ok (.getfield 27, 3) := by decide +kernel
theorem dX3_select_65 : decode cX3_select 65 = .ok (.iload 4, 2) := by decide +kernel
theorem dX3_select_67 : decode cX3_select 67 = .ok (.iconst 1, 1) := by decide +kernel
theorem dX3_select_68 : decode cX3_select 68 = .ok (.invokevirtual 121, 3) := by decide +kernel
theorem dX3_select_71 : decode cX3_select 71 = .ok (.iinc 2 1, 3) := by decide +kernel
theorem dX3_select_74 : decode cX3_select 74 = .ok (.iinc 3 1, 3) := by decide +kernel
theorem dX3_select_77 : decode cX3_select 77 = .ok (.goto (-52), 3) := by decide +kernel
theorem dX3_select_80 : decode cX3_select 80 = .ok (.iload_n 2, 1) := by decide +kernel
theorem dX3_select_81 : decode cX3_select 81 = .ok (.ireturn, 1) := by decide +kernel
theorem dX3_selected_0 : decode cX3_selected 0 = .ok (.iload_n 1, 1) := by decide +kernel
theorem dX3_selected_1 : decode cX3_selected 1 = .ok (.ifCond .lt 9, 3) := by decide +kernel
theorem dX3_selected_4 : decode cX3_selected 4 = .ok (.iload_n 1, 1) := by decide +kernel
theorem dX3_selected_5 : decode cX3_selected 5 = .ok (.bipush 8, 2) := by decide +kernel
theorem dX3_selected_7 : decode cX3_selected 7 = .ok (.if_icmp .lt 13, 3) := by decide +kernel
theorem dX3_selected_10 : decode cX3_selected 10 = .ok (.new 52, 3) := by decide +kernel
theorem dX3_selected_13 : decode cX3_selected 13 = .ok (.dup, 1) := by decide +kernel
theorem dX3_selected_14 : decode cX3_selected 14 = .ok (.ldc 107, 2) := by decide +kernel
theorem dX3_selected_16 : decode cX3_selected 16 = .ok (.invokespecial 56, 3) := by decide +kernel
theorem dX3_selected_19 : decode cX3_selected 19 = .ok (.athrow, 1) := by decide +kernel
theorem dX3_selected_20 : decode cX3_selected 20 = .ok (.aload_n 0, 1) := by decide +kernel
theorem dX3_selected_21 : decode cX3_selected 21 = .ok (.getfield 45, 3) := by decide +kernel
theorem dX3_selected_24 : decode cX3_selected 24 = .ok (.iload_n 1, 1) := by decide +kernel
theorem dX3_selected_25 : decode cX3_selected 25 = .ok (.iaload, 1) := by decide +kernel
theorem dX3_selected_26 : decode cX3_selected 26 = .ok (.ireturn, 1) := by decide +kernel
set_option maxRecDepth 20000 in
theorem ggX3_end_X2_isPlace : GoodIn wsX3_end wsX2_isPlace := goodIn_r _ [12, 13, 95, 96, 97, 98, 99, 100, 101, 102, 103, 104] (by decide +kernel) (by decide +kernel)
set_option maxRecDepth 20000 in
theorem gX3_end_X2_isPlace : GoodIn wsX3_end (wsV RX3 91 RX2 yX2_isPlace wsX2_isPlace) := goodIn_app (goodIn_of _ (by decide +kernel)) ggX3_end_X2_isPlace
set_option maxRecDepth 20000 in
theorem ggX3_end_X2_isInState : GoodIn wsX3_end wsX2_isInState := goodIn_r _ [17, 13, 18, 19, 20, 11, 21, 22, 23, 9, 10, 12, 24, 25, 26, 27, 28, 95, 96, 97, 98, 99, 100, 101, 102, 103, 104] (by decide +kernel) (by decide +kernel)
set_option maxRecDepth 20000 in
theorem gX3_end_X2_isInState : GoodIn wsX3_end (wsV RX3 96 RX2 yX2_isInState wsX2_isInState) := goodIn_app (goodIn_of _ (by decide +kernel)) ggX3_end_X2_isInState
set_option maxRecDepth 20000 in
theorem ggX3_end_X2_setState : GoodIn wsX3_end wsX2_setState := goodIn_r _ [32, 13, 23, 9, 10, 11, 12, 95, 96, 97, 98, 99, 100, 101, 102, 103, 104] (by decide +kernel) (by decide +kernel)
set_option maxRecDepth 20000 in
theorem gX3_end_X2_setState : GoodIn wsX3_end (wsV RX3 121 RX2 yX2_setState wsX2_setState) := goodIn_app (goodIn_of _ (by decide +kernel)) ggX3_end_X2_setState
set_option maxRecDepth 20000 in
theorem ggX3_end_X3_countAble : GoodIn wsX3_end wsX3_countAble := goodIn_r _ [37, 3, 38, 39, 40, 11, 41, 22, 42, 43, 44, 45, 28, 13, 46, 47, 48, 36, 49, 7, 14, 15, 16, 17, 18, 19, 20, 21, 23, 9, 10, 12, 24, 25, 26, 27, 50, 51, 52, 53, 54, 55, 56, 57, 58, 59, 60, 61, 62, 63, 64, 65, 66, 67, 68, 69, 70, 80, 81, 82, 83, 84, 85, 86, 87, 88, 95, 96, 97, 98, 99, 100, 101, 102, 103, 104, 105, 106, 107, 108, 109] (by decide +kernel) (by decide +kernel)
set_option maxRecDepth 20000 in
theorem gX3_end_X3_countAble : GoodIn wsX3_end (wsV RX3 126 RX3 yX3_countAble wsX3_countAble) := goodIn_app (goodIn_of _ (by decide +kernel)) ggX3_end_X3_countAble
set_option maxRecDepth 20000 in
theorem ggX3_end_X2_givenAt : GoodIn wsX3_end wsX2_givenAt := goodIn_r _ [74, 75, 23, 9, 10, 11, 12, 13, 95, 96, 97, 98, 99, 100, 101, 102, 103, 104] (by decide +kernel) (by decide +kernel)
set_option maxRecDepth 20000 in
theorem gX3_end_X2_givenAt : GoodIn wsX3_end (wsV RX3 129 RX2 yX2_givenAt wsX2_givenAt) := goodIn_app (goodIn_of _ (by decide +kernel)) ggX3_end_X2_givenAt
set_option maxRecDepth 20000 in
theorem ggX3_end_X1_makeReady : GoodIn wsX3_end wsX1_makeReady := goodIn_r _ [79, 60, 61, 62, 63, 58, 64, 65, 105, 106, 107, 108, 109] (by decide +kernel) (by decide +kernel)
set_option maxRecDepth 20000 in
theorem gX3_end_X1_makeReady : GoodIn wsX3_end (wsV RX3 132 RX1 yX1_makeReady wsX1_makeReady) := goodIn_app (goodIn_of _ (by decide +kernel)) ggX3_end_X1_makeReady
theorem dX3_end_0 : decode cX3_end 0 = .ok (.aload_n 0, 1) := by decide +kernel
theorem dX3_end_1 : decode cX3_end 1 = .ok (.getfield 27, 3) := by decide +kernel
theorem dX3_end_4 : decode cX3_end 4 = .ok (.iload_n 1, 1) := by decide +kernel
theorem dX3_end_5 : decode cX3_end 5 = .ok (.invokevirtual 91, 3) := by decide +kernel
theorem dX3_end_8 : decode cX3_end 8 = .ok (.ifCond .ne 13, 3) := by decide +kernel
theorem dX3_end_11 : decode cX3_end 11 = .ok (.new 52, 3) := by decide +kernel
theorem dX3_end_14 : decode cX3_end 14 = .ok (.dup, 1) := by decide +kernel
theorem dX3_end_15 : decode cX3_end 15 = .ok (.ldc 94, 2) := by decide +kernel
theorem dX3_end_17 : decode cX3_end 17 = .ok (.invokespecial 56, 3) := by decide +kernel
theorem dX3_end_20 : decode cX3_end 20 = .ok (.athrow, 1) := by decide +kernel
theorem dX3_end_21 : decode cX3_end 21 = .ok (.aload_n 0, 1) := by decide +kernel
theorem dX3_end_22 : decode cX3_end 22 = .ok (.getfield 27, 3) := by decide +kernel
theorem dX3_end_25 : decode cX3_end 25 = .ok (.iload_n 1, 1) := by decide +kernel
theorem dX3_end_26 : decode cX3_end 26 = .ok (.iconst 1, 1) := by decide +kernel
theorem dX3_end_27 : decode cX3_end 27 = .ok (.invokevirtual 96, 3) := by decide +kernel
theorem dX3_end_30 : decode cX3_end 30 = .ok (.ifCond .ne 13, 3) := by decide +kernel
theorem dX3_end_33 : decode cX3_end 33 = .ok (.new 100, 3) := by decide +kernel
theorem dX3_end_36 : decode cX3_end 36 = .ok (.dup, 1) := by decide +kernel
theorem dX3_end_37 : decode cX3_end 37 = .ok (.ldc 124, 2) := by decide +kernel
theorem dX3_end_39 : decode cX3_end 39 = .ok (.invokespecial 104, 3) := by decide +kernel
theorem dX3_end_42 : decode cX3_end 42 = .ok (.athrow, 1) := by decide +kernel
theorem dX3_end_43 : decode cX3_end 43 = .ok (.aload_n 0, 1) := by decide +kernel
theorem dX3_end_44 : decode cX3_end 44 = .ok (.getfield 27, 3) := by decide +kernel
theorem dX3_end_47 : decode cX3_end 47 = .ok (.iload_n 1, 1) := by decide +kernel
theorem dX3_end_48 : decode cX3_end 48 = .ok (.iconst 2, 1) := by decide +kernel
theorem dX3_end_49 : decode cX3_end 49 = .ok (.invokevirtual 121, 3) := by decide +kernel
theorem dX3_end_52 : decode cX3_end 52 = .ok (.aload_n 0, 1) := by decide +kernel
theorem dX3_end_53 : decode cX3_end 53 = .ok (.invokevirtual 126, 3) := by decide +kernel
theorem dX3_end_56 : decode cX3_end 56 = .ok (.istore_n 2, 1) := by decide +kernel
theorem dX3_end_57 : decode cX3_end 57 = .ok (.aload_n 0, 1) := by decide +kernel
theorem dX3_end_58 : decode cX3_end 58 = .ok (.getfield 18, 3) := by decide +kernel
theorem dX3_end_61 : decode cX3_end 61 = .ok (.aload_n 0, 1) := by decide +kernel
theorem dX3_end_62 : decode cX3_end 62 = .ok (.getfield 27, 3) := by decide +kernel
theorem dX3_end_65 : decode cX3_end 65 = .ok (.iload_n 1, 1) := by decide +kernel
theorem dX3_end_66 : decode cX3_end 66 = .ok (.invokevirtual 129, 3) := by decide +kernel
theorem dX3_end_69 : decode cX3_end 69 = .ok (.invokevirtual 132, 3) := by decide +kernel
theorem dX3_end_72 : decode cX3_end 72 = .ok (.aload_n 0, 1) := by decide +kernel
theorem dX3_end_73 : decode cX3_end 73 = .ok (.invokevirtual 126, 3) := by decide +kernel
theorem dX3_end_76 : decode cX3_end 76 = .ok (.iload_n 2, 1) := by decide +kernel
theorem dX3_end_77 : decode cX3_end 77 = .ok (.isub, 1) := by decide +kernel
theorem dX3_end_78 : decode cX3_end 78 = .ok (.ireturn, 1) := by decide +kernel
set_option maxRecDepth 20000 in
theorem ggX3_commit_X3_rowsBeforeOldestMark : GoodIn wsX3_commit wsX3_rowsBeforeOldestMark := goodIn_r _ [12, 13, 7, 14, 15, 16, 17, 18, 19, 20, 21, 22, 23, 24, 25, 26, 27, 28, 29, 30, 31, 32, 33, 34, 35, 36, 37, 38, 39, 40, 114, 115, 116, 117, 118, 119, 120, 121, 122, 123, 124, 125, 126, 127, 128, 129, 130, 131, 132, 133, 134, 135] (by decide +kernel) (by decide +kernel)
set_option maxRecDepth 20000 in
theorem gX3_commit_X3_rowsBeforeOldestMark : GoodIn wsX3_commit (wsV RX3 137 RX3 yX3_rowsBeforeOldestMark wsX3_rowsBeforeOldestMark) := goodIn_app (goodIn_of _ (by decide +kernel)) ggX3_commit_X3_rowsBeforeOldestMark
set_option maxRecDepth 20000 in
theorem ggX3_commit_X2_oldestPlace : GoodIn wsX3_commit wsX2_oldestPlace := goodIn_r _ [44, 26, 45, 126, 127, 128, 129, 130, 131, 132, 133, 134, 135] (by decide +kernel) (by decide +kernel)
set_option maxRecDepth 20000 in
theorem gX3_commit_X2_oldestPlace : GoodIn wsX3_commit (wsV RX3 145 RX2 yX2_oldestPlace wsX2_oldestPlace) := goodIn_app (goodIn_of _ (by decide +kernel)) ggX3_commit_X2_oldestPlace
set_option maxRecDepth 20000 in
theorem ggX3_commit_X2_isInState : GoodIn wsX3_commit wsX2_isInState := goodIn_r _ [49, 50, 51, 52, 53, 24, 54, 26, 55, 56, 57, 58, 59, 60, 61, 62, 45, 126, 127, 128, 129, 130, 131, 132, 133, 134, 135] (by decide +kernel) (by decide +kernel)
set_option maxRecDepth 20000 in
theorem gX3_commit_X2_isInState : GoodIn wsX3_commit (wsV RX3 96 RX2 yX2_isInState wsX2_isInState) := goodIn_app (goodIn_of _ (by decide +kernel)) ggX3_commit_X2_isInState
set_option maxRecDepth 20000 in
theorem ggX3_commit_X3_finishOldest : GoodIn wsX3_commit wsX3_finishOldest := goodIn_r _ [66, 7, 67, 68, 41, 42, 43, 24, 44, 26, 45, 69, 70, 71, 72, 73, 55, 56, 57, 58, 50, 74, 75, 76, 11, 77, 78, 79, 80, 81, 82, 83, 84, 85, 86, 87, 88, 89, 90, 91, 92, 93, 94, 95, 96, 97, 98, 99, 100, 101, 102, 103, 104, 105, 106, 107, 108, 109, 40, 110, 111, 112, 113, 114, 115, 116, 117, 118, 119, 120, 121, 122, 126, 127, 128, 129, 130, 131, 132, 133, 134, 135, 136, 137, 138, 139, 140] (by decide +kernel) (by decide +kernel)
set_option maxRecDepth 20000 in
theorem gX3_commit_X3_finishOldest : GoodIn wsX3_commit (wsV RX3 148 RX3 yX3_finishOldest wsX3_finishOldest) := goodIn_app (goodIn_of _ (by decide +kernel)) ggX3_commit_X3_finishOldest
theorem dX3_commit_0 : decode cX3_commit 0 = .ok (.iload_n 1, 1) := by decide +kernel
theorem dX3_commit_1 : decode cX3_commit 1 = .ok (.ifCond .ge 13, 3) := by decide +kernel
theorem dX3_commit_4 : decode cX3_commit 4 = .ok (.new 105, 3) := by decide +kernel
theorem dX3_commit_7 : decode cX3_commit 7 = .ok (.dup, 1) := by decide +kernel
theorem dX3_commit_8 : decode cX3_commit 8 = .ok (.ldc 135, 2) := by decide +kernel
theorem dX3_commit_10 : decode cX3_commit 10 = .ok (.invokespecial 109, 3) := by decide +kernel
theorem dX3_commit_13 : decode cX3_commit 13 = .ok (.athrow, 1) := by decide +kernel
theorem dX3_commit_14 : decode cX3_commit 14 = .ok (.iload_n 1, 1) := by decide +kernel
theorem dX3_commit_15 : decode cX3_commit 15 = .ok (.aload_n 0, 1) := by decide +kernel
theorem dX3_commit_16 : decode cX3_commit 16 = .ok (.invokevirtual 137, 3) := by decide +kernel
theorem dX3_commit_19 : decode cX3_commit 19 = .ok (.invokestatic 140, 3) := by decide +kernel
theorem dX3_commit_22 : decode cX3_commit 22 = .ok (.istore_n 2, 1) := by decide +kernel
theorem dX3_commit_23 : decode cX3_commit 23 = .ok (.iconst 0, 1) := by decide +kernel
theorem dX3_commit_24 : decode cX3_commit 24 = .ok (.istore_n 3, 1) := by decide +kernel
theorem dX3_commit_25 : decode cX3_commit 25 = .ok (.iload_n 3, 1) := by decide +kernel
theorem dX3_commit_26 : decode cX3_commit 26 = .ok (.iload_n 2, 1) := by decide +kernel
theorem dX3_commit_27 : decode cX3_commit 27 = .ok (.if_icmp .ge 31, 3) := by decide +kernel
theorem dX3_commit_30 : decode cX3_commit 30 = .ok (.aload_n 0, 1) := by decide +kernel
theorem dX3_commit_31 : decode cX3_commit 31 = .ok (.getfield 27, 3) := by decide +kernel
theorem dX3_commit_34 : decode cX3_commit 34 = .ok (.aload_n 0, 1) := by decide +kernel
theorem dX3_commit_35 : decode cX3_commit 35 = .ok (.getfield 27, 3) := by decide +kernel
theorem dX3_commit_38 : decode cX3_commit 38 = .ok (.invokevirtual 145, 3) := by decide +kernel
theorem dX3_commit_41 : decode cX3_commit 41 = .ok (.iconst 2, 1) := by decide +kernel
theorem dX3_commit_42 : decode cX3_commit 42 = .ok (.invokevirtual 96, 3) := by decide +kernel
theorem dX3_commit_45 : decode cX3_commit 45 = .ok (.ifCond .eq 13, 3) := by decide +kernel
theorem dX3_commit_48 : decode cX3_commit 48 = .ok (.aload_n 0, 1) := by decide +kernel
theorem dX3_commit_49 : decode cX3_commit 49 = .ok (.invokevirtual 148, 3) := by decide +kernel
theorem dX3_commit_52 : decode cX3_commit 52 = .ok (.iinc 3 1, 3) := by decide +kernel
theorem dX3_commit_55 : decode cX3_commit 55 = .ok (.goto (-30), 3) := by decide +kernel
theorem dX3_commit_58 : decode cX3_commit 58 = .ok (.iload_n 3, 1) := by decide +kernel
theorem dX3_commit_59 : decode cX3_commit 59 = .ok (.ireturn, 1) := by decide +kernel
set_option maxRecDepth 20000 in
theorem ggX3_branch_X2_rowsSinceBeginning : GoodIn wsX3_branch wsX2_rowsSinceBeginning := goodIn_r _ [7, 8, 9, 35, 36, 37, 38, 39, 40, 41, 42, 43, 44] (by decide +kernel) (by decide +kernel)
set_option maxRecDepth 20000 in
theorem gX3_branch_X2_rowsSinceBeginning : GoodIn wsX3_branch (wsV RX3 151 RX2 yX2_rowsSinceBeginning wsX2_rowsSinceBeginning) := goodIn_app (goodIn_of _ (by decide +kernel)) ggX3_branch_X2_rowsSinceBeginning
set_option maxRecDepth 20000 in
theorem ggX3_branch_X0_takeLowest : GoodIn wsX3_branch wsX0_takeLowest := goodIn_r _ [14, 15, 16, 17, 18, 19, 20, 13, 21, 22, 23, 24, 25, 45, 46, 47] (by decide +kernel) (by decide +kernel)
set_option maxRecDepth 20000 in
theorem gX3_branch_X0_takeLowest : GoodIn wsX3_branch (wsV RX3 154 RX0 yX0_takeLowest wsX0_takeLowest) := goodIn_app (goodIn_of _ (by decide +kernel)) ggX3_branch_X0_takeLowest
theorem dX3_branch_0 : decode cX3_branch 0 = .ok (.aload_n 0, 1) := by decide +kernel
theorem dX3_branch_1 : decode cX3_branch 1 = .ok (.getfield 34, 3) := by decide +kernel
theorem dX3_branch_4 : decode cX3_branch 4 = .ok (.aload_n 0, 1) := by decide +kernel
theorem dX3_branch_5 : decode cX3_branch 5 = .ok (.getfield 27, 3) := by decide +kernel
theorem dX3_branch_8 : decode cX3_branch 8 = .ok (.invokevirtual 151, 3) := by decide +kernel
theorem dX3_branch_11 : decode cX3_branch 11 = .ok (.invokevirtual 154, 3) := by decide +kernel
theorem dX3_branch_14 : decode cX3_branch 14 = .ok (.ireturn, 1) := by decide +kernel
set_option maxRecDepth 20000 in
theorem ggX3_right_X0_isMark : GoodIn wsX3_right wsX0_isMark := goodIn_r _ [11] (by decide +kernel) (by decide +kernel)
set_option maxRecDepth 20000 in
theorem gX3_right_X0_isMark : GoodIn wsX3_right (wsV RX3 157 RX0 yX0_isMark wsX0_isMark) := goodIn_app (goodIn_of _ (by decide +kernel)) ggX3_right_X0_isMark
set_option maxRecDepth 20000 in
theorem ggX3_right_X0_isFree : GoodIn wsX3_right wsX0_isFree := goodIn_r _ [15, 16, 17, 18, 10, 19, 20, 21, 45, 46, 47] (by decide +kernel) (by decide +kernel)
set_option maxRecDepth 20000 in
theorem gX3_right_X0_isFree : GoodIn wsX3_right (wsV RX3 162 RX0 yX0_isFree wsX0_isFree) := goodIn_app (goodIn_of _ (by decide +kernel)) ggX3_right_X0_isFree
set_option maxRecDepth 20000 in
theorem ggX3_right_X0_release : GoodIn wsX3_right wsX0_release := goodIn_r _ [25, 20, 21, 16, 17, 18, 10, 19, 45, 46, 47] (by decide +kernel) (by decide +kernel)
set_option maxRecDepth 20000 in
theorem gX3_right_X0_release : GoodIn wsX3_right (wsV RX3 167 RX0 yX0_release wsX0_release) := goodIn_app (goodIn_of _ (by decide +kernel)) ggX3_right_X0_release
set_option maxRecDepth 20000 in
theorem ggX3_right_X0_takenCount : GoodIn wsX3_right wsX0_takenCount := goodIn_r _ [29, 20, 45, 46, 47] (by decide +kernel) (by decide +kernel)
set_option maxRecDepth 20000 in
theorem gX3_right_X0_takenCount : GoodIn wsX3_right (wsV RX3 170 RX0 yX0_takenCount wsX0_takenCount) := goodIn_app (goodIn_of _ (by decide +kernel)) ggX3_right_X0_takenCount
theorem dX3_right_0 : decode cX3_right 0 = .ok (.aload_n 0, 1) := by decide +kernel
theorem dX3_right_1 : decode cX3_right 1 = .ok (.getfield 34, 3) := by decide +kernel
theorem dX3_right_4 : decode cX3_right 4 = .ok (.iload_n 1, 1) := by decide +kernel
theorem dX3_right_5 : decode cX3_right 5 = .ok (.invokevirtual 157, 3) := by decide +kernel
theorem dX3_right_8 : decode cX3_right 8 = .ok (.ifCond .ne 13, 3) := by decide +kernel
theorem dX3_right_11 : decode cX3_right 11 = .ok (.new 52, 3) := by decide +kernel
theorem dX3_right_14 : decode cX3_right 14 = .ok (.dup, 1) := by decide +kernel
theorem dX3_right_15 : decode cX3_right 15 = .ok (.ldc 160, 2) := by decide +kernel
theorem dX3_right_17 : decode cX3_right 17 = .ok (.invokespecial 56, 3) := by decide +kernel
theorem dX3_right_20 : decode cX3_right 20 = .ok (.athrow, 1) := by decide +kernel
theorem dX3_right_21 : decode cX3_right 21 = .ok (.aload_n 0, 1) := by decide +kernel
theorem dX3_right_22 : decode cX3_right 22 = .ok (.getfield 34, 3) := by decide +kernel
theorem dX3_right_25 : decode cX3_right 25 = .ok (.iload_n 1, 1) := by decide +kernel
theorem dX3_right_26 : decode cX3_right 26 = .ok (.invokevirtual 162, 3) := by decide +kernel
theorem dX3_right_29 : decode cX3_right 29 = .ok (.ifCond .eq 13, 3) := by decide +kernel
theorem dX3_right_32 : decode cX3_right 32 = .ok (.new 100, 3) := by decide +kernel
theorem dX3_right_35 : decode cX3_right 35 = .ok (.dup, 1) := by decide +kernel
theorem dX3_right_36 : decode cX3_right 36 = .ok (.ldc 165, 2) := by decide +kernel
theorem dX3_right_38 : decode cX3_right 38 = .ok (.invokespecial 104, 3) := by decide +kernel
theorem dX3_right_41 : decode cX3_right 41 = .ok (.athrow, 1) := by decide +kernel
theorem dX3_right_42 : decode cX3_right 42 = .ok (.aload_n 0, 1) := by decide +kernel
theorem dX3_right_43 : decode cX3_right 43 = .ok (.getfield 34, 3) := by decide +kernel
theorem dX3_right_46 : decode cX3_right 46 = .ok (.iload_n 1, 1) := by decide +kernel
theorem dX3_right_47 : decode cX3_right 47 = .ok (.invokevirtual 167, 3) := by decide +kernel
theorem dX3_right_50 : decode cX3_right 50 = .ok (.aload_n 0, 1) := by decide +kernel
theorem dX3_right_51 : decode cX3_right 51 = .ok (.getfield 34, 3) := by decide +kernel
theorem dX3_right_54 : decode cX3_right 54 = .ok (.invokevirtual 170, 3) := by decide +kernel
theorem dX3_right_57 : decode cX3_right 57 = .ok (.ireturn, 1) := by decide +kernel
set_option maxRecDepth 20000 in
theorem ggX3_wrong_X0_isMark : GoodIn wsX3_wrong wsX0_isMark := goodIn_r _ [13] (by decide +kernel) (by decide +kernel)
set_option maxRecDepth 20000 in
theorem gX3_wrong_X0_isMark : GoodIn wsX3_wrong (wsV RX3 157 RX0 yX0_isMark wsX0_isMark) := goodIn_app (goodIn_of _ (by decide +kernel)) ggX3_wrong_X0_isMark
set_option maxRecDepth 20000 in
theorem ggX3_wrong_X0_isFree : GoodIn wsX3_wrong wsX0_isFree := goodIn_r _ [17, 18, 19, 20, 12, 21, 22, 23, 117, 118, 119] (by decide +kernel) (by decide +kernel)
set_option maxRecDepth 20000 in
theorem gX3_wrong_X0_isFree : GoodIn wsX3_wrong (wsV RX3 162 RX0 yX0_isFree wsX0_isFree) := goodIn_app (goodIn_of _ (by decide +kernel)) ggX3_wrong_X0_isFree
set_option maxRecDepth 20000 in
theorem ggX3_wrong_X2_rowsSinceBeginning : GoodIn wsX3_wrong wsX2_rowsSinceBeginning := goodIn_r _ [28, 29, 30, 120, 121, 122, 123, 124, 125, 126, 127, 128, 129] (by decide +kernel) (by decide +kernel)
set_option maxRecDepth 20000 in
theorem gX3_wrong_X2_rowsSinceBeginning : GoodIn wsX3_wrong (wsV RX3 151 RX2 yX2_rowsSinceBeginning wsX2_rowsSinceBeginning) := goodIn_app (goodIn_of _ (by decide +kernel)) ggX3_wrong_X2_rowsSinceBeginning
set_option maxRecDepth 20000 in
theorem ggX3_wrong_X0_rowsBefore : GoodIn wsX3_wrong wsX0_rowsBefore := goodIn_r _ [34, 35, 36, 10, 11, 12, 13, 117, 118, 119] (by decide +kernel) (by decide +kernel)
set_option maxRecDepth 20000 in
theorem gX3_wrong_X0_rowsBefore : GoodIn wsX3_wrong (wsV RX3 173 RX0 yX0_rowsBefore wsX0_rowsBefore) := goodIn_app (goodIn_of _ (by decide +kernel)) ggX3_wrong_X0_rowsBefore
set_option maxRecDepth 20000 in
theorem ggX3_wrong_X3_takeBackLast : GoodIn wsX3_wrong wsX3_takeBackLast := goodIn_r _ [41, 7, 42, 43, 44, 45, 46, 27, 47, 30, 48, 49, 50, 51, 52, 53, 54, 55, 56, 57, 58, 59, 60, 61, 62, 63, 64, 65, 40, 66, 67, 68, 69, 70, 71, 72, 73, 74, 75, 76, 77, 78, 79, 80, 81, 82, 83, 84, 85, 86, 87, 88, 89, 90, 91, 92, 93, 94, 95, 96, 97, 102, 103, 104, 105, 106, 107, 108, 109, 110, 120, 121, 122, 123, 124, 125, 126, 127, 128, 129, 130, 131, 132, 133, 134] (by decide +kernel) (by decide +kernel)
set_option maxRecDepth 20000 in
theorem gX3_wrong_X3_takeBackLast : GoodIn wsX3_wrong (wsV RX3 176 RX3 yX3_takeBackLast wsX3_takeBackLast) := goodIn_app (goodIn_of _ (by decide +kernel)) ggX3_wrong_X3_takeBackLast
set_option maxRecDepth 20000 in
theorem ggX3_wrong_X0_releaseFrom : GoodIn wsX3_wrong wsX0_releaseFrom := goodIn_r _ [101, 22, 18, 19, 20, 12, 21, 23, 117, 118, 119] (by decide +kernel) (by decide +kernel)
set_option maxRecDepth 20000 in
theorem gX3_wrong_X0_releaseFrom : GoodIn wsX3_wrong (wsV RX3 179 RX0 yX0_releaseFrom wsX0_releaseFrom) := goodIn_app (goodIn_of _ (by decide +kernel)) ggX3_wrong_X0_releaseFrom
theorem dX3_wrong_0 : decode cX3_wrong 0 = .ok (.aload_n 0, 1) := by decide +kernel
theorem dX3_wrong_1 : decode cX3_wrong 1 = .ok (.getfield 34, 3) := by decide +kernel
theorem dX3_wrong_4 : decode cX3_wrong 4 = .ok (.iload_n 1, 1) := by decide +kernel
theorem dX3_wrong_5 : decode cX3_wrong 5 = .ok (.invokevirtual 157, 3) := by decide +kernel
theorem dX3_wrong_8 : decode cX3_wrong 8 = .ok (.ifCond .ne 13, 3) := by decide +kernel
theorem dX3_wrong_11 : decode cX3_wrong 11 = .ok (.new 52, 3) := by decide +kernel
theorem dX3_wrong_14 : decode cX3_wrong 14 = .ok (.dup, 1) := by decide +kernel
theorem dX3_wrong_15 : decode cX3_wrong 15 = .ok (.ldc 160, 2) := by decide +kernel
theorem dX3_wrong_17 : decode cX3_wrong 17 = .ok (.invokespecial 56, 3) := by decide +kernel
theorem dX3_wrong_20 : decode cX3_wrong 20 = .ok (.athrow, 1) := by decide +kernel
theorem dX3_wrong_21 : decode cX3_wrong 21 = .ok (.aload_n 0, 1) := by decide +kernel
theorem dX3_wrong_22 : decode cX3_wrong 22 = .ok (.getfield 34, 3) := by decide +kernel
theorem dX3_wrong_25 : decode cX3_wrong 25 = .ok (.iload_n 1, 1) := by decide +kernel
theorem dX3_wrong_26 : decode cX3_wrong 26 = .ok (.invokevirtual 162, 3) := by decide +kernel
theorem dX3_wrong_29 : decode cX3_wrong 29 = .ok (.ifCond .eq 13, 3) := by decide +kernel
theorem dX3_wrong_32 : decode cX3_wrong 32 = .ok (.new 100, 3) := by decide +kernel
theorem dX3_wrong_35 : decode cX3_wrong 35 = .ok (.dup, 1) := by decide +kernel
theorem dX3_wrong_36 : decode cX3_wrong 36 = .ok (.ldc 165, 2) := by decide +kernel
theorem dX3_wrong_38 : decode cX3_wrong 38 = .ok (.invokespecial 104, 3) := by decide +kernel
theorem dX3_wrong_41 : decode cX3_wrong 41 = .ok (.athrow, 1) := by decide +kernel
theorem dX3_wrong_42 : decode cX3_wrong 42 = .ok (.aload_n 0, 1) := by decide +kernel
theorem dX3_wrong_43 : decode cX3_wrong 43 = .ok (.getfield 27, 3) := by decide +kernel
theorem dX3_wrong_46 : decode cX3_wrong 46 = .ok (.invokevirtual 151, 3) := by decide +kernel
theorem dX3_wrong_49 : decode cX3_wrong 49 = .ok (.aload_n 0, 1) := by decide +kernel
theorem dX3_wrong_50 : decode cX3_wrong 50 = .ok (.getfield 34, 3) := by decide +kernel
theorem dX3_wrong_53 : decode cX3_wrong 53 = .ok (.iload_n 1, 1) := by decide +kernel
theorem dX3_wrong_54 : decode cX3_wrong 54 = .ok (.invokevirtual 173, 3) := by decide +kernel
theorem dX3_wrong_57 : decode cX3_wrong 57 = .ok (.isub, 1) := by decide +kernel
theorem dX3_wrong_58 : decode cX3_wrong 58 = .ok (.istore_n 2, 1) := by decide +kernel
theorem dX3_wrong_59 : decode cX3_wrong 59 = .ok (.iconst 0, 1) := by decide +kernel
theorem dX3_wrong_60 : decode cX3_wrong 60 = .ok (.istore_n 3, 1) := by decide +kernel
theorem dX3_wrong_61 : decode cX3_wrong 61 = .ok (.iload_n 3, 1) := by decide +kernel
theorem dX3_wrong_62 : decode cX3_wrong 62 = .ok (.iload_n 2, 1) := by decide +kernel
theorem dX3_wrong_63 : decode cX3_wrong 63 = .ok (.if_icmp .ge 13, 3) := by decide +kernel
theorem dX3_wrong_66 : decode cX3_wrong 66 = .ok (.aload_n 0, 1) := by decide +kernel
theorem dX3_wrong_67 : decode cX3_wrong 67 = .ok (.invokevirtual 176, 3) := by decide +kernel
theorem dX3_wrong_70 : decode cX3_wrong 70 = .ok (.iinc 3 1, 3) := by decide +kernel
theorem dX3_wrong_73 : decode cX3_wrong 73 = .ok (.goto (-12), 3) := by decide +kernel
theorem dX3_wrong_76 : decode cX3_wrong 76 = .ok (.aload_n 0, 1) := by decide +kernel
theorem dX3_wrong_77 : decode cX3_wrong 77 = .ok (.getfield 34, 3) := by decide +kernel
theorem dX3_wrong_80 : decode cX3_wrong 80 = .ok (.iload_n 1, 1) := by decide +kernel
theorem dX3_wrong_81 : decode cX3_wrong 81 = .ok (.invokevirtual 179, 3) := by decide +kernel
theorem dX3_wrong_84 : decode cX3_wrong 84 = .ok (.aload_n 0, 1) := by decide +kernel
theorem dX3_wrong_85 : decode cX3_wrong 85 = .ok (.dup, 1) := by decide +kernel
theorem dX3_wrong_86 : decode cX3_wrong 86 = .ok (.getfield 182, 3) := by decide +kernel
theorem dX3_wrong_89 : decode cX3_wrong 89 = .ok (.iload_n 2, 1) := by decide +kernel
theorem dX3_wrong_90 : decode cX3_wrong 90 = .ok (.iadd, 1) := by decide +kernel
theorem dX3_wrong_91 : decode cX3_wrong 91 = .ok (.putfield 182, 3) := by decide +kernel
theorem dX3_wrong_94 : decode cX3_wrong 94 = .ok (.iload_n 2, 1) := by decide +kernel
theorem dX3_wrong_95 : decode cX3_wrong 95 = .ok (.ireturn, 1) := by decide +kernel
set_option maxRecDepth 20000 in
theorem ggX3_name_X3_isRegister : GoodIn wsX3_name wsX3_isRegister := goodIn_r _ [9, 4, 16, 17, 18, 19, 20, 21, 22, 23, 24] (by decide +kernel) (by decide +kernel)
set_option maxRecDepth 20000 in
theorem gX3_name_X3_isRegister : GoodIn wsX3_name (wsV RX3 85 RX3 yX3_isRegister wsX3_isRegister) := goodIn_app (goodIn_of _ (by decide +kernel)) ggX3_name_X3_isRegister
theorem dX3_name_0 : decode cX3_name 0 = .ok (.aload_n 0, 1) := by decide +kernel
theorem dX3_name_1 : decode cX3_name 1 = .ok (.iload_n 1, 1) := by decide +kernel
theorem dX3_name_2 : decode cX3_name 2 = .ok (.invokevirtual 85, 3) := by decide +kernel
theorem dX3_name_5 : decode cX3_name 5 = .ok (.ifCond .ne 13, 3) := by decide +kernel
theorem dX3_name_8 : decode cX3_name 8 = .ok (.new 52, 3) := by decide +kernel
theorem dX3_name_11 : decode cX3_name 11 = .ok (.dup, 1) := by decide +kernel
theorem dX3_name_12 : decode cX3_name 12 = .ok (.ldc 54, 2) := by decide +kernel
theorem dX3_name_14 : decode cX3_name 14 = .ok (.invokespecial 56, 3) := by decide +kernel
theorem dX3_name_17 : decode cX3_name 17 = .ok (.athrow, 1) := by decide +kernel
theorem dX3_name_18 : decode cX3_name 18 = .ok (.aload_n 0, 1) := by decide +kernel
theorem dX3_name_19 : decode cX3_name 19 = .ok (.getfield 38, 3) := by decide +kernel
theorem dX3_name_22 : decode cX3_name 22 = .ok (.iload_n 1, 1) := by decide +kernel
theorem dX3_name_23 : decode cX3_name 23 = .ok (.iaload, 1) := by decide +kernel
theorem dX3_name_24 : decode cX3_name 24 = .ok (.ireturn, 1) := by decide +kernel
set_option maxRecDepth 20000 in
theorem ggX3_sure_X3_isRegister : GoodIn wsX3_sure wsX3_isRegister := goodIn_r _ [9, 10, 17, 18, 19, 20, 21, 22, 23, 24, 25] (by decide +kernel) (by decide +kernel)
set_option maxRecDepth 20000 in
theorem gX3_sure_X3_isRegister : GoodIn wsX3_sure (wsV RX3 85 RX3 yX3_isRegister wsX3_isRegister) := goodIn_app (goodIn_of _ (by decide +kernel)) ggX3_sure_X3_isRegister
theorem dX3_sure_0 : decode cX3_sure 0 = .ok (.aload_n 0, 1) := by decide +kernel
theorem dX3_sure_1 : decode cX3_sure 1 = .ok (.iload_n 1, 1) := by decide +kernel
theorem dX3_sure_2 : decode cX3_sure 2 = .ok (.invokevirtual 85, 3) := by decide +kernel
theorem dX3_sure_5 : decode cX3_sure 5 = .ok (.ifCond .ne 13, 3) := by decide +kernel
theorem dX3_sure_8 : decode cX3_sure 8 = .ok (.new 52, 3) := by decide +kernel
theorem dX3_sure_11 : decode cX3_sure 11 = .ok (.dup, 1) := by decide +kernel
theorem dX3_sure_12 : decode cX3_sure 12 = .ok (.ldc 54, 2) := by decide +kernel
theorem dX3_sure_14 : decode cX3_sure 14 = .ok (.invokespecial 56, 3) := by decide +kernel
theorem dX3_sure_17 : decode cX3_sure 17 = .ok (.athrow, 1) := by decide +kernel
theorem dX3_sure_18 : decode cX3_sure 18 = .ok (.aload_n 0, 1) := by decide +kernel
theorem dX3_sure_19 : decode cX3_sure 19 = .ok (.getfield 42, 3) := by decide +kernel
theorem dX3_sure_22 : decode cX3_sure 22 = .ok (.iload_n 1, 1) := by decide +kernel
theorem dX3_sure_23 : decode cX3_sure 23 = .ok (.iaload, 1) := by decide +kernel
theorem dX3_sure_24 : decode cX3_sure 24 = .ok (.ireturn, 1) := by decide +kernel
set_option maxRecDepth 20000 in
theorem ggX3_shares_X1_isName : GoodIn wsX3_shares wsX1_isName := goodIn_r _ [9, 10, 31, 32, 33, 34, 35] (by decide +kernel) (by decide +kernel)
set_option maxRecDepth 20000 in
theorem gX3_shares_X1_isName : GoodIn wsX3_shares (wsV RX3 185 RX1 yX1_isName wsX1_isName) := goodIn_app (goodIn_of _ (by decide +kernel)) ggX3_shares_X1_isName
set_option maxRecDepth 20000 in
theorem ggX3_shares_X1_sharesOf : GoodIn wsX3_shares wsX1_sharesOf := goodIn_r _ [14, 10, 15, 6, 7, 8, 9, 31, 32, 33, 34, 35] (by decide +kernel) (by decide +kernel)
set_option maxRecDepth 20000 in
theorem gX3_shares_X1_sharesOf : GoodIn wsX3_shares (wsV RX3 190 RX1 yX1_sharesOf wsX1_sharesOf) := goodIn_app (goodIn_of _ (by decide +kernel)) ggX3_shares_X1_sharesOf
theorem dX3_shares_0 : decode cX3_shares 0 = .ok (.aload_n 0, 1) := by decide +kernel
theorem dX3_shares_1 : decode cX3_shares 1 = .ok (.getfield 18, 3) := by decide +kernel
theorem dX3_shares_4 : decode cX3_shares 4 = .ok (.iload_n 1, 1) := by decide +kernel
theorem dX3_shares_5 : decode cX3_shares 5 = .ok (.invokevirtual 185, 3) := by decide +kernel
theorem dX3_shares_8 : decode cX3_shares 8 = .ok (.ifCond .ne 13, 3) := by decide +kernel
theorem dX3_shares_11 : decode cX3_shares 11 = .ok (.new 52, 3) := by decide +kernel
theorem dX3_shares_14 : decode cX3_shares 14 = .ok (.dup, 1) := by decide +kernel
theorem dX3_shares_15 : decode cX3_shares 15 = .ok (.ldc 188, 2) := by decide +kernel
theorem dX3_shares_17 : decode cX3_shares 17 = .ok (.invokespecial 56, 3) := by decide +kernel
theorem dX3_shares_20 : decode cX3_shares 20 = .ok (.athrow, 1) := by decide +kernel
theorem dX3_shares_21 : decode cX3_shares 21 = .ok (.aload_n 0, 1) := by decide +kernel
theorem dX3_shares_22 : decode cX3_shares 22 = .ok (.getfield 18, 3) := by decide +kernel
theorem dX3_shares_25 : decode cX3_shares 25 = .ok (.iload_n 1, 1) := by decide +kernel
theorem dX3_shares_26 : decode cX3_shares 26 = .ok (.invokevirtual 190, 3) := by decide +kernel
theorem dX3_shares_29 : decode cX3_shares 29 = .ok (.ireturn, 1) := by decide +kernel
set_option maxRecDepth 20000 in
theorem ggX3_queue_X1_freeCount : GoodIn wsX3_queue wsX1_freeCount := goodIn_r _ [8, 9, 29, 30, 31, 32, 33] (by decide +kernel) (by decide +kernel)
set_option maxRecDepth 20000 in
theorem gX3_queue_X1_freeCount : GoodIn wsX3_queue (wsV RX3 67 RX1 yX1_freeCount wsX1_freeCount) := goodIn_app (goodIn_of _ (by decide +kernel)) ggX3_queue_X1_freeCount
set_option maxRecDepth 20000 in
theorem ggX3_queue_X1_freeAt : GoodIn wsX3_queue wsX1_freeAt := goodIn_r _ [13, 9, 14, 15, 16, 17, 7, 18, 19, 29, 30, 31, 32, 33] (by decide +kernel) (by decide +kernel)
set_option maxRecDepth 20000 in
theorem gX3_queue_X1_freeAt : GoodIn wsX3_queue (wsV RX3 195 RX1 yX1_freeAt wsX1_freeAt) := goodIn_app (goodIn_of _ (by decide +kernel)) ggX3_queue_X1_freeAt
theorem dX3_queue_0 : decode cX3_queue 0 = .ok (.iload_n 1, 1) := by decide +kernel
theorem dX3_queue_1 : decode cX3_queue 1 = .ok (.ifCond .lt 14, 3) := by decide +kernel
theorem dX3_queue_4 : decode cX3_queue 4 = .ok (.iload_n 1, 1) := by decide +kernel
theorem dX3_queue_5 : decode cX3_queue 5 = .ok (.aload_n 0, 1) := by decide +kernel
theorem dX3_queue_6 : decode cX3_queue 6 = .ok (.getfield 18, 3) := by decide +kernel
theorem dX3_queue_9 : decode cX3_queue 9 = .ok (.invokevirtual 67, 3) := by decide +kernel
theorem dX3_queue_12 : decode cX3_queue 12 = .ok (.if_icmp .lt 13, 3) := by decide +kernel
theorem dX3_queue_15 : decode cX3_queue 15 = .ok (.new 105, 3) := by decide +kernel
theorem dX3_queue_18 : decode cX3_queue 18 = .ok (.dup, 1) := by decide +kernel
theorem dX3_queue_19 : decode cX3_queue 19 = .ok (.ldc 193, 2) := by decide +kernel
theorem dX3_queue_21 : decode cX3_queue 21 = .ok (.invokespecial 109, 3) := by decide +kernel
theorem dX3_queue_24 : decode cX3_queue 24 = .ok (.athrow, 1) := by decide +kernel
theorem dX3_queue_25 : decode cX3_queue 25 = .ok (.aload_n 0, 1) := by decide +kernel
theorem dX3_queue_26 : decode cX3_queue 26 = .ok (.getfield 18, 3) := by decide +kernel
theorem dX3_queue_29 : decode cX3_queue 29 = .ok (.iload_n 1, 1) := by decide +kernel
theorem dX3_queue_30 : decode cX3_queue 30 = .ok (.invokevirtual 195, 3) := by decide +kernel
theorem dX3_queue_33 : decode cX3_queue 33 = .ok (.ireturn, 1) := by decide +kernel
set_option maxRecDepth 20000 in
theorem ggX3_row_X2_isPlace : GoodIn wsX3_row wsX2_isPlace := goodIn_r _ [13, 14, 75, 76, 77, 78, 79, 80, 81, 82, 83, 84] (by decide +kernel) (by decide +kernel)
set_option maxRecDepth 20000 in
theorem gX3_row_X2_isPlace : GoodIn wsX3_row (wsV RX3 91 RX2 yX2_isPlace wsX2_isPlace) := goodIn_app (goodIn_of _ (by decide +kernel)) ggX3_row_X2_isPlace
set_option maxRecDepth 20000 in
theorem ggX3_row_X2_holdsRow : GoodIn wsX3_row wsX2_holdsRow := goodIn_r _ [18, 19, 20, 10, 11, 12, 13, 14, 21, 22, 23, 24, 25, 75, 76, 77, 78, 79, 80, 81, 82, 83, 84] (by decide +kernel) (by decide +kernel)
set_option maxRecDepth 20000 in
theorem gX3_row_X2_holdsRow : GoodIn wsX3_row (wsV RX3 198 RX2 yX2_holdsRow wsX2_holdsRow) := goodIn_app (goodIn_of _ (by decide +kernel)) ggX3_row_X2_holdsRow
set_option maxRecDepth 20000 in
theorem ggX3_row_X2_readAAt : GoodIn wsX3_row wsX2_readAAt := goodIn_r _ [29, 30, 20, 10, 11, 12, 13, 14, 75, 76, 77, 78, 79, 80, 81, 82, 83, 84] (by decide +kernel) (by decide +kernel)
set_option maxRecDepth 20000 in
theorem gX3_row_X2_readAAt : GoodIn wsX3_row (wsV RX3 203 RX2 yX2_readAAt wsX2_readAAt) := goodIn_app (goodIn_of _ (by decide +kernel)) ggX3_row_X2_readAAt
set_option maxRecDepth 20000 in
theorem ggX3_row_X2_readBAt : GoodIn wsX3_row wsX2_readBAt := goodIn_r _ [34, 35, 20, 10, 11, 12, 13, 14, 75, 76, 77, 78, 79, 80, 81, 82, 83, 84] (by decide +kernel) (by decide +kernel)
set_option maxRecDepth 20000 in
theorem gX3_row_X2_readBAt : GoodIn wsX3_row (wsV RX3 206 RX2 yX2_readBAt wsX2_readBAt) := goodIn_app (goodIn_of _ (by decide +kernel)) ggX3_row_X2_readBAt
set_option maxRecDepth 20000 in
theorem ggX3_row_X2_givenAt : GoodIn wsX3_row wsX2_givenAt := goodIn_r _ [39, 40, 20, 10, 11, 12, 13, 14, 75, 76, 77, 78, 79, 80, 81, 82, 83, 84] (by decide +kernel) (by decide +kernel)
set_option maxRecDepth 20000 in
theorem gX3_row_X2_givenAt : GoodIn wsX3_row (wsV RX3 129 RX2 yX2_givenAt wsX2_givenAt) := goodIn_app (goodIn_of _ (by decide +kernel)) ggX3_row_X2_givenAt
set_option maxRecDepth 20000 in
theorem ggX3_row_X2_knownAt : GoodIn wsX3_row wsX2_knownAt := goodIn_r _ [44, 45, 20, 10, 11, 12, 13, 14, 75, 76, 77, 78, 79, 80, 81, 82, 83, 84] (by decide +kernel) (by decide +kernel)
set_option maxRecDepth 20000 in
theorem gX3_row_X2_knownAt : GoodIn wsX3_row (wsV RX3 209 RX2 yX2_knownAt wsX2_knownAt) := goodIn_app (goodIn_of _ (by decide +kernel)) ggX3_row_X2_knownAt
set_option maxRecDepth 20000 in
theorem ggX3_row_X2_registerAt : GoodIn wsX3_row wsX2_registerAt := goodIn_r _ [49, 50, 20, 10, 11, 12, 13, 14, 75, 76, 77, 78, 79, 80, 81, 82, 83, 84] (by decide +kernel) (by decide +kernel)
set_option maxRecDepth 20000 in
theorem gX3_row_X2_registerAt : GoodIn wsX3_row (wsV RX3 212 RX2 yX2_registerAt wsX2_registerAt) := goodIn_app (goodIn_of _ (by decide +kernel)) ggX3_row_X2_registerAt
set_option maxRecDepth 20000 in
theorem ggX3_row_X2_portAt : GoodIn wsX3_row wsX2_portAt := goodIn_r _ [54, 55, 20, 10, 11, 12, 13, 14, 75, 76, 77, 78, 79, 80, 81, 82, 83, 84] (by decide +kernel) (by decide +kernel)
set_option maxRecDepth 20000 in
theorem gX3_row_X2_portAt : GoodIn wsX3_row (wsV RX3 110 RX2 yX2_portAt wsX2_portAt) := goodIn_app (goodIn_of _ (by decide +kernel)) ggX3_row_X2_portAt
set_option maxRecDepth 20000 in
theorem ggX3_row_X2_stateAt : GoodIn wsX3_row wsX2_stateAt := goodIn_r _ [59, 14, 20, 10, 11, 12, 13, 75, 76, 77, 78, 79, 80, 81, 82, 83, 84] (by decide +kernel) (by decide +kernel)
set_option maxRecDepth 20000 in
theorem gX3_row_X2_stateAt : GoodIn wsX3_row (wsV RX3 215 RX2 yX2_stateAt wsX2_stateAt) := goodIn_app (goodIn_of _ (by decide +kernel)) ggX3_row_X2_stateAt
theorem dX3_row_0 : decode cX3_row 0 = .ok (.aload_n 0, 1) := by decide +kernel
theorem dX3_row_1 : decode cX3_row 1 = .ok (.getfield 27, 3) := by decide +kernel
theorem dX3_row_4 : decode cX3_row 4 = .ok (.iload_n 1, 1) := by decide +kernel
theorem dX3_row_5 : decode cX3_row 5 = .ok (.invokevirtual 91, 3) := by decide +kernel
theorem dX3_row_8 : decode cX3_row 8 = .ok (.ifCond .ne 13, 3) := by decide +kernel
theorem dX3_row_11 : decode cX3_row 11 = .ok (.new 52, 3) := by decide +kernel
theorem dX3_row_14 : decode cX3_row 14 = .ok (.dup, 1) := by decide +kernel
theorem dX3_row_15 : decode cX3_row 15 = .ok (.ldc 94, 2) := by decide +kernel
theorem dX3_row_17 : decode cX3_row 17 = .ok (.invokespecial 56, 3) := by decide +kernel
theorem dX3_row_20 : decode cX3_row 20 = .ok (.athrow, 1) := by decide +kernel
theorem dX3_row_21 : decode cX3_row 21 = .ok (.aload_n 0, 1) := by decide +kernel
theorem dX3_row_22 : decode cX3_row 22 = .ok (.getfield 27, 3) := by decide +kernel
theorem dX3_row_25 : decode cX3_row 25 = .ok (.iload_n 1, 1) := by decide +kernel
theorem dX3_row_26 : decode cX3_row 26 = .ok (.invokevirtual 198, 3) := by decide +kernel
theorem dX3_row_29 : decode cX3_row 29 = .ok (.ifCond .ne 13, 3) := by decide +kernel
theorem dX3_row_32 : decode cX3_row 32 = .ok (.new 100, 3) := by decide +kernel
theorem dX3_row_35 : decode cX3_row 35 = .ok (.dup, 1) := by decide +kernel
theorem dX3_row_36 : decode cX3_row 36 = .ok (.ldc 201, 2) := by decide +kernel
theorem dX3_row_38 : decode cX3_row 38 = .ok (.invokespecial 104, 3) := by decide +kernel
theorem dX3_row_41 : decode cX3_row 41 = .ok (.athrow, 1) := by decide +kernel
theorem dX3_row_42 : decode cX3_row 42 = .ok (.iload_n 2, 1) := by decide +kernel
theorem dX3_row_43 : decode cX3_row 43 = .ok (.tableswitch 104 0 6 #[41, 50, 59, 68, 77, 86, 95], 41) := by decide +kernel
theorem dX3_row_84 : decode cX3_row 84 = .ok (.aload_n 0, 1) := by decide +kernel
theorem dX3_row_85 : decode cX3_row 85 = .ok (.getfield 27, 3) := by decide +kernel
theorem dX3_row_88 : decode cX3_row 88 = .ok (.iload_n 1, 1) := by decide +kernel
theorem dX3_row_89 : decode cX3_row 89 = .ok (.invokevirtual 203, 3) := by decide +kernel
theorem dX3_row_92 : decode cX3_row 92 = .ok (.ireturn, 1) := by decide +kernel
theorem dX3_row_93 : decode cX3_row 93 = .ok (.aload_n 0, 1) := by decide +kernel
theorem dX3_row_94 : decode cX3_row 94 = .ok (.getfield 27, 3) := by decide +kernel
theorem dX3_row_97 : decode cX3_row 97 = .ok (.iload_n 1, 1) := by decide +kernel
theorem dX3_row_98 : decode cX3_row 98 = .ok (.invokevirtual 206, 3) := by decide +kernel
theorem dX3_row_101 : decode cX3_row 101 = .ok (.ireturn, 1) := by decide +kernel
theorem dX3_row_102 : decode cX3_row 102 = .ok (.aload_n 0, 1) := by decide +kernel
theorem dX3_row_103 : decode cX3_row 103 = .ok (.getfield 27, 3) := by decide +kernel
theorem dX3_row_106 : decode cX3_row 106 = .ok (.iload_n 1, 1) := by decide +kernel
theorem dX3_row_107 : decode cX3_row 107 = .ok (.invokevirtual 129, 3) := by decide +kernel
theorem dX3_row_110 : decode cX3_row 110 = .ok (.ireturn, 1) := by decide +kernel
theorem dX3_row_111 : decode cX3_row 111 = .ok (.aload_n 0, 1) := by decide +kernel
theorem dX3_row_112 : decode cX3_row 112 = .ok (.getfield 27, 3) := by decide +kernel
theorem dX3_row_115 : decode cX3_row 115 = .ok (.iload_n 1, 1) := by decide +kernel
theorem dX3_row_116 : decode cX3_row 116 = .ok (.invokevirtual 209, 3) := by decide +kernel
theorem dX3_row_119 : decode cX3_row 119 = .ok (.ireturn, 1) := by decide +kernel
theorem dX3_row_120 : decode cX3_row 120 = .ok (.aload_n 0, 1) := by decide +kernel
theorem dX3_row_121 : decode cX3_row 121 = .ok (.getfield 27, 3) := by decide +kernel
theorem dX3_row_124 : decode cX3_row 124 = .ok (.iload_n 1, 1) := by decide +kernel
theorem dX3_row_125 : decode cX3_row 125 = .ok (.invokevirtual 212, 3) := by decide +kernel
theorem dX3_row_128 : decode cX3_row 128 = .ok (.ireturn, 1) := by decide +kernel
theorem dX3_row_129 : decode cX3_row 129 = .ok (.aload_n 0, 1) := by decide +kernel
theorem dX3_row_130 : decode cX3_row 130 = .ok (.getfield 27, 3) := by decide +kernel
theorem dX3_row_133 : decode cX3_row 133 = .ok (.iload_n 1, 1) := by decide +kernel
theorem dX3_row_134 : decode cX3_row 134 = .ok (.invokevirtual 110, 3) := by decide +kernel
theorem dX3_row_137 : decode cX3_row 137 = .ok (.ireturn, 1) := by decide +kernel
theorem dX3_row_138 : decode cX3_row 138 = .ok (.aload_n 0, 1) := by decide +kernel
theorem dX3_row_139 : decode cX3_row 139 = .ok (.getfield 27, 3) := by decide +kernel
theorem dX3_row_142 : decode cX3_row 142 = .ok (.iload_n 1, 1) := by decide +kernel
theorem dX3_row_143 : decode cX3_row 143 = .ok (.invokevirtual 215, 3) := by decide +kernel
theorem dX3_row_146 : decode cX3_row 146 = .ok (.ireturn, 1) := by decide +kernel
theorem dX3_row_147 : decode cX3_row 147 = .ok (.new 105, 3) := by decide +kernel
theorem dX3_row_150 : decode cX3_row 150 = .ok (.dup, 1) := by decide +kernel
theorem dX3_row_151 : decode cX3_row 151 = .ok (.ldc 218, 2) := by decide +kernel
theorem dX3_row_153 : decode cX3_row 153 = .ok (.invokespecial 109, 3) := by decide +kernel
theorem dX3_row_156 : decode cX3_row 156 = .ok (.athrow, 1) := by decide +kernel
set_option maxRecDepth 20000 in
theorem ggX3_count_X1_total : GoodIn wsX3_count wsX1_total := goodIn_r _ [12, 13, 55, 56, 57, 58, 59] (by decide +kernel) (by decide +kernel)
set_option maxRecDepth 20000 in
theorem gX3_count_X1_total : GoodIn wsX3_count (wsV RX3 220 RX1 yX1_total wsX1_total) := goodIn_app (goodIn_of _ (by decide +kernel)) ggX3_count_X1_total
set_option maxRecDepth 20000 in
theorem ggX3_count_X2_placeCount : GoodIn wsX3_count wsX2_placeCount := goodIn_r _ [18, 19, 60, 61, 62, 63, 64, 65, 66, 67, 68, 69] (by decide +kernel) (by decide +kernel)
set_option maxRecDepth 20000 in
theorem gX3_count_X2_placeCount : GoodIn wsX3_count (wsV RX3 223 RX2 yX2_placeCount wsX2_placeCount) := goodIn_app (goodIn_of _ (by decide +kernel)) ggX3_count_X2_placeCount
set_option maxRecDepth 20000 in
theorem ggX3_count_X2_rowCount : GoodIn wsX3_count wsX2_rowCount := goodIn_r _ [23, 24, 60, 61, 62, 63, 64, 65, 66, 67, 68, 69] (by decide +kernel) (by decide +kernel)
set_option maxRecDepth 20000 in
theorem gX3_count_X2_rowCount : GoodIn wsX3_count (wsV RX3 226 RX2 yX2_rowCount wsX2_rowCount) := goodIn_app (goodIn_of _ (by decide +kernel)) ggX3_count_X2_rowCount
set_option maxRecDepth 20000 in
theorem ggX3_count_X1_freeCount : GoodIn wsX3_count wsX1_freeCount := goodIn_r _ [28, 29, 55, 56, 57, 58, 59] (by decide +kernel) (by decide +kernel)
set_option maxRecDepth 20000 in
theorem gX3_count_X1_freeCount : GoodIn wsX3_count (wsV RX3 67 RX1 yX1_freeCount wsX1_freeCount) := goodIn_app (goodIn_of _ (by decide +kernel)) ggX3_count_X1_freeCount
set_option maxRecDepth 20000 in
theorem ggX3_count_X0_takenCount : GoodIn wsX3_count wsX0_takenCount := goodIn_r _ [34, 35, 70, 71, 72] (by decide +kernel) (by decide +kernel)
set_option maxRecDepth 20000 in
theorem gX3_count_X0_takenCount : GoodIn wsX3_count (wsV RX3 170 RX0 yX0_takenCount wsX0_takenCount) := goodIn_app (goodIn_of _ (by decide +kernel)) ggX3_count_X0_takenCount
set_option maxRecDepth 20000 in
theorem ggX3_count_X2_doneCount : GoodIn wsX3_count wsX2_doneCount := goodIn_r _ [39, 40, 60, 61, 62, 63, 64, 65, 66, 67, 68, 69] (by decide +kernel) (by decide +kernel)
set_option maxRecDepth 20000 in
theorem gX3_count_X2_doneCount : GoodIn wsX3_count (wsV RX3 229 RX2 yX2_doneCount wsX2_doneCount) := goodIn_app (goodIn_of _ (by decide +kernel)) ggX3_count_X2_doneCount
set_option maxRecDepth 20000 in
theorem ggX3_count_X2_oldestPlace : GoodIn wsX3_count wsX2_oldestPlace := goodIn_r _ [44, 24, 45, 60, 61, 62, 63, 64, 65, 66, 67, 68, 69] (by decide +kernel) (by decide +kernel)
set_option maxRecDepth 20000 in
theorem gX3_count_X2_oldestPlace : GoodIn wsX3_count (wsV RX3 145 RX2 yX2_oldestPlace wsX2_oldestPlace) := goodIn_app (goodIn_of _ (by decide +kernel)) ggX3_count_X2_oldestPlace
theorem dX3_count_0 : decode cX3_count 0 = .ok (.iload_n 1, 1) := by decide +kernel
theorem dX3_count_1 : decode cX3_count 1 = .ok (.tableswitch 136 0 10 #[59, 65, 73, 81, 89, 97, 105, 113, 118, 126, 131], 59) := by decide +kernel
theorem dX3_count_60 : decode cX3_count 60 = .ok (.aload_n 0, 1) := by decide +kernel
theorem dX3_count_61 : decode cX3_count 61 = .ok (.getfield 38, 3) := by decide +kernel
theorem dX3_count_64 : decode cX3_count 64 = .ok (.arraylength, 1) := by decide +kernel
theorem dX3_count_65 : decode cX3_count 65 = .ok (.ireturn, 1) := by decide +kernel
theorem dX3_count_66 : decode cX3_count 66 = .ok (.aload_n 0, 1) := by decide +kernel
theorem dX3_count_67 : decode cX3_count 67 = .ok (.getfield 18, 3) := by decide +kernel
theorem dX3_count_70 : decode cX3_count 70 = .ok (.invokevirtual 220, 3) := by decide +kernel
theorem dX3_count_73 : decode cX3_count 73 = .ok (.ireturn, 1) := by decide +kernel
theorem dX3_count_74 : decode cX3_count 74 = .ok (.aload_n 0, 1) := by decide +kernel
theorem dX3_count_75 : decode cX3_count 75 = .ok (.getfield 27, 3) := by decide +kernel
theorem dX3_count_78 : decode cX3_count 78 = .ok (.invokevirtual 223, 3) := by decide +kernel
theorem dX3_count_81 : decode cX3_count 81 = .ok (.ireturn, 1) := by decide +kernel
theorem dX3_count_82 : decode cX3_count 82 = .ok (.aload_n 0, 1) := by decide +kernel
theorem dX3_count_83 : decode cX3_count 83 = .ok (.getfield 27, 3) := by decide +kernel
theorem dX3_count_86 : decode cX3_count 86 = .ok (.invokevirtual 226, 3) := by decide +kernel
theorem dX3_count_89 : decode cX3_count 89 = .ok (.ireturn, 1) := by decide +kernel
theorem dX3_count_90 : decode cX3_count 90 = .ok (.aload_n 0, 1) := by decide +kernel
theorem dX3_count_91 : decode cX3_count 91 = .ok (.getfield 18, 3) := by decide +kernel
theorem dX3_count_94 : decode cX3_count 94 = .ok (.invokevirtual 67, 3) := by decide +kernel
theorem dX3_count_97 : decode cX3_count 97 = .ok (.ireturn, 1) := by decide +kernel
theorem dX3_count_98 : decode cX3_count 98 = .ok (.aload_n 0, 1) := by decide +kernel
theorem dX3_count_99 : decode cX3_count 99 = .ok (.getfield 34, 3) := by decide +kernel
theorem dX3_count_102 : decode cX3_count 102 = .ok (.invokevirtual 170, 3) := by decide +kernel
theorem dX3_count_105 : decode cX3_count 105 = .ok (.ireturn, 1) := by decide +kernel
theorem dX3_count_106 : decode cX3_count 106 = .ok (.aload_n 0, 1) := by decide +kernel
theorem dX3_count_107 : decode cX3_count 107 = .ok (.getfield 27, 3) := by decide +kernel
theorem dX3_count_110 : decode cX3_count 110 = .ok (.invokevirtual 229, 3) := by decide +kernel
theorem dX3_count_113 : decode cX3_count 113 = .ok (.ireturn, 1) := by decide +kernel
theorem dX3_count_114 : decode cX3_count 114 = .ok (.aload_n 0, 1) := by decide +kernel
theorem dX3_count_115 : decode cX3_count 115 = .ok (.getfield 182, 3) := by decide +kernel
theorem dX3_count_118 : decode cX3_count 118 = .ok (.ireturn, 1) := by decide +kernel
theorem dX3_count_119 : decode cX3_count 119 = .ok (.aload_n 0, 1) := by decide +kernel
theorem dX3_count_120 : decode cX3_count 120 = .ok (.getfield 27, 3) := by decide +kernel
theorem dX3_count_123 : decode cX3_count 123 = .ok (.invokevirtual 145, 3) := by decide +kernel
theorem dX3_count_126 : decode cX3_count 126 = .ok (.ireturn, 1) := by decide +kernel
theorem dX3_count_127 : decode cX3_count 127 = .ok (.aload_n 0, 1) := by decide +kernel
theorem dX3_count_128 : decode cX3_count 128 = .ok (.getfield 63, 3) := by decide +kernel
theorem dX3_count_131 : decode cX3_count 131 = .ok (.ireturn, 1) := by decide +kernel
theorem dX3_count_132 : decode cX3_count 132 = .ok (.aload_n 0, 1) := by decide +kernel
theorem dX3_count_133 : decode cX3_count 133 = .ok (.getfield 71, 3) := by decide +kernel
theorem dX3_count_136 : decode cX3_count 136 = .ok (.ireturn, 1) := by decide +kernel
theorem dX3_count_137 : decode cX3_count 137 = .ok (.iconst (-1), 1) := by decide +kernel
theorem dX3_count_138 : decode cX3_count 138 = .ok (.ireturn, 1) := by decide +kernel
theorem dX3_oneToSize_0 : decode cX3_oneToSize 0 = .ok (.iconst 1, 1) := by decide +kernel
theorem dX3_oneToSize_1 : decode cX3_oneToSize 1 = .ok (.iload_n 0, 1) := by decide +kernel
theorem dX3_oneToSize_2 : decode cX3_oneToSize 2 = .ok (.iconst 1, 1) := by decide +kernel
theorem dX3_oneToSize_3 : decode cX3_oneToSize 3 = .ok (.isub, 1) := by decide +kernel
theorem dX3_oneToSize_4 : decode cX3_oneToSize 4 = .ok (.iload_n 1, 1) := by decide +kernel
theorem dX3_oneToSize_5 : decode cX3_oneToSize 5 = .ok (.iconst 1, 1) := by decide +kernel
theorem dX3_oneToSize_6 : decode cX3_oneToSize 6 = .ok (.isub, 1) := by decide +kernel
theorem dX3_oneToSize_7 : decode cX3_oneToSize 7 = .ok (.iand, 1) := by decide +kernel
theorem dX3_oneToSize_8 : decode cX3_oneToSize 8 = .ok (.iadd, 1) := by decide +kernel
theorem dX3_oneToSize_9 : decode cX3_oneToSize 9 = .ok (.ireturn, 1) := by decide +kernel
theorem dX3_isRegister_0 : decode cX3_isRegister 0 = .ok (.iload_n 1, 1) := by decide +kernel
theorem dX3_isRegister_1 : decode cX3_isRegister 1 = .ok (.ifCond .lt 16, 3) := by decide +kernel
theorem dX3_isRegister_4 : decode cX3_isRegister 4 = .ok (.iload_n 1, 1) := by decide +kernel
theorem dX3_isRegister_5 : decode cX3_isRegister 5 = .ok (.aload_n 0, 1) := by decide +kernel
theorem dX3_isRegister_6 : decode cX3_isRegister 6 = .ok (.getfield 38, 3) := by decide +kernel
theorem dX3_isRegister_9 : decode cX3_isRegister 9 = .ok (.arraylength, 1) := by decide +kernel
theorem dX3_isRegister_10 : decode cX3_isRegister 10 = .ok (.if_icmp .ge 7, 3) := by decide +kernel
theorem dX3_isRegister_13 : decode cX3_isRegister 13 = .ok (.iconst 1, 1) := by decide +kernel
theorem dX3_isRegister_14 : decode cX3_isRegister 14 = .ok (.goto 4, 3) := by decide +kernel
theorem dX3_isRegister_17 : decode cX3_isRegister 17 = .ok (.iconst 0, 1) := by decide +kernel
theorem dX3_isRegister_18 : decode cX3_isRegister 18 = .ok (.ireturn, 1) := by decide +kernel
set_option maxRecDepth 20000 in
theorem ggX3_isRegisterOrNone_X3_isRegister : GoodIn wsX3_isRegisterOrNone wsX3_isRegister := goodIn_r _ [5, 6, 7, 8, 9, 10, 11, 12, 13, 14, 15] (by decide +kernel) (by decide +kernel)
set_option maxRecDepth 20000 in
theorem gX3_isRegisterOrNone_X3_isRegister : GoodIn wsX3_isRegisterOrNone (wsV RX3 85 RX3 yX3_isRegister wsX3_isRegister) := goodIn_app (goodIn_of _ (by decide +kernel)) ggX3_isRegisterOrNone_X3_isRegister
theorem dX3_isRegisterOrNone_0 : decode cX3_isRegisterOrNone 0 = .ok (.iload_n 1, 1) := by decide +kernel
theorem dX3_isRegisterOrNone_1 : decode cX3_isRegisterOrNone 1 = .ok (.iconst (-1), 1) := by decide +kernel
theorem dX3_isRegisterOrNone_2 : decode cX3_isRegisterOrNone 2 = .ok (.if_icmp .eq 11, 3) := by decide +kernel
theorem dX3_isRegisterOrNone_5 : decode cX3_isRegisterOrNone 5 = .ok (.aload_n 0, 1) := by decide +kernel
theorem dX3_isRegisterOrNone_6 : decode cX3_isRegisterOrNone 6 = .ok (.iload_n 1, 1) := by decide +kernel
theorem dX3_isRegisterOrNone_7 : decode cX3_isRegisterOrNone 7 = .ok (.invokevirtual 85, 3) := by decide +kernel
theorem dX3_isRegisterOrNone_10 : decode cX3_isRegisterOrNone 10 = .ok (.ifCond .eq 7, 3) := by decide +kernel
theorem dX3_isRegisterOrNone_13 : decode cX3_isRegisterOrNone 13 = .ok (.iconst 1, 1) := by decide +kernel
theorem dX3_isRegisterOrNone_14 : decode cX3_isRegisterOrNone 14 = .ok (.goto 4, 3) := by decide +kernel
theorem dX3_isRegisterOrNone_17 : decode cX3_isRegisterOrNone 17 = .ok (.iconst 0, 1) := by decide +kernel
theorem dX3_isRegisterOrNone_18 : decode cX3_isRegisterOrNone 18 = .ok (.ireturn, 1) := by decide +kernel
set_option maxRecDepth 20000 in
theorem ggX3_currentName_X3_isRegister : GoodIn wsX3_currentName wsX3_isRegister := goodIn_r _ [6, 1, 7, 8, 9, 10, 11, 12, 13, 14, 15] (by decide +kernel) (by decide +kernel)
set_option maxRecDepth 20000 in
theorem gX3_currentName_X3_isRegister : GoodIn wsX3_currentName (wsV RX3 85 RX3 yX3_isRegister wsX3_isRegister) := goodIn_app (goodIn_of _ (by decide +kernel)) ggX3_currentName_X3_isRegister
theorem dX3_currentName_0 : decode cX3_currentName 0 = .ok (.aload_n 0, 1) := by decide +kernel
theorem dX3_currentName_1 : decode cX3_currentName 1 = .ok (.iload_n 1, 1) := by decide +kernel
theorem dX3_currentName_2 : decode cX3_currentName 2 = .ok (.invokevirtual 85, 3) := by decide +kernel
theorem dX3_currentName_5 : decode cX3_currentName 5 = .ok (.ifCond .eq 12, 3) := by decide +kernel
theorem dX3_currentName_8 : decode cX3_currentName 8 = .ok (.aload_n 0, 1) := by decide +kernel
theorem dX3_currentName_9 : decode cX3_currentName 9 = .ok (.getfield 38, 3) := by decide +kernel
theorem dX3_currentName_12 : decode cX3_currentName 12 = .ok (.iload_n 1, 1) := by decide +kernel
theorem dX3_currentName_13 : decode cX3_currentName 13 = .ok (.iaload, 1) := by decide +kernel
theorem dX3_currentName_14 : decode cX3_currentName 14 = .ok (.goto 4, 3) := by decide +kernel
theorem dX3_currentName_17 : decode cX3_currentName 17 = .ok (.iconst (-1), 1) := by decide +kernel
theorem dX3_currentName_18 : decode cX3_currentName 18 = .ok (.ireturn, 1) := by decide +kernel
set_option maxRecDepth 20000 in
theorem ggX3_appendRow_X3_currentName : GoodIn wsX3_appendRow wsX3_currentName := goodIn_r _ [7, 2, 8, 9, 10, 6, 11, 34, 35, 36, 37, 38, 39, 40, 41, 42] (by decide +kernel) (by decide +kernel)
set_option maxRecDepth 20000 in
theorem gX3_appendRow_X3_currentName : GoodIn wsX3_appendRow (wsV RX3 74 RX3 yX3_currentName wsX3_currentName) := goodIn_app (goodIn_of _ (by decide +kernel)) ggX3_appendRow_X3_currentName
set_option maxRecDepth 20000 in
theorem ggX3_appendRow_X2_append : GoodIn wsX3_appendRow wsX2_append := goodIn_r _ [16, 17, 18, 19, 20, 21, 22, 23, 24, 25, 26, 27, 15, 28, 29, 30, 31, 32, 33, 43, 44, 45, 46, 47, 48, 49, 50, 51, 52] (by decide +kernel) (by decide +kernel)
set_option maxRecDepth 20000 in
theorem gX3_appendRow_X2_append : GoodIn wsX3_appendRow (wsV RX3 232 RX2 yX2_append wsX2_append) := goodIn_app (goodIn_of _ (by decide +kernel)) ggX3_appendRow_X2_append
set_option maxRecDepth 20000 in
theorem ggX3_appendRow_X3_isRegister : GoodIn wsX3_appendRow wsX3_isRegister := goodIn_r _ [11, 2, 34, 35, 36, 37, 38, 39, 40, 41, 42] (by decide +kernel) (by decide +kernel)
set_option maxRecDepth 20000 in
theorem gX3_appendRow_X3_isRegister : GoodIn wsX3_appendRow (wsV RX3 85 RX3 yX3_isRegister wsX3_isRegister) := goodIn_app (goodIn_of _ (by decide +kernel)) ggX3_appendRow_X3_isRegister
theorem dX3_appendRow_0 : decode cX3_appendRow 0 = .ok (.aload_n 0, 1) := by decide +kernel
theorem dX3_appendRow_1 : decode cX3_appendRow 1 = .ok (.getfield 27, 3) := by decide +kernel
theorem dX3_appendRow_4 : decode cX3_appendRow 4 = .ok (.iload_n 1, 1) := by decide +kernel
theorem dX3_appendRow_5 : decode cX3_appendRow 5 = .ok (.iload_n 2, 1) := by decide +kernel
theorem dX3_appendRow_6 : decode cX3_appendRow 6 = .ok (.iload_n 3, 1) := by decide +kernel
theorem dX3_appendRow_7 : decode cX3_appendRow 7 = .ok (.aload_n 0, 1) := by decide +kernel
theorem dX3_appendRow_8 : decode cX3_appendRow 8 = .ok (.iload 4, 2) := by decide +kernel
theorem dX3_appendRow_10 : decode cX3_appendRow 10 = .ok (.invokevirtual 74, 3) := by decide +kernel
theorem dX3_appendRow_13 : decode cX3_appendRow 13 = .ok (.iload 4, 2) := by decide +kernel
theorem dX3_appendRow_15 : decode cX3_appendRow 15 = .ok (.iload 5, 2) := by decide +kernel
theorem dX3_appendRow_17 : decode cX3_appendRow 17 = .ok (.invokevirtual 232, 3) := by decide +kernel
theorem dX3_appendRow_20 : decode cX3_appendRow 20 = .ok (.istore 6, 2) := by decide +kernel
theorem dX3_appendRow_22 : decode cX3_appendRow 22 = .ok (.aload_n 0, 1) := by decide +kernel
theorem dX3_appendRow_23 : decode cX3_appendRow 23 = .ok (.iload 4, 2) := by decide +kernel
theorem dX3_appendRow_25 : decode cX3_appendRow 25 = .ok (.invokevirtual 85, 3) := by decide +kernel
theorem dX3_appendRow_28 : decode cX3_appendRow 28 = .ok (.ifCond .eq 11, 3) := by decide +kernel
theorem dX3_appendRow_31 : decode cX3_appendRow 31 = .ok (.aload_n 0, 1) := by decide +kernel
theorem dX3_appendRow_32 : decode cX3_appendRow 32 = .ok (.getfield 38, 3) := by decide +kernel
theorem dX3_appendRow_35 : decode cX3_appendRow 35 = .ok (.iload 4, 2) := by decide +kernel
theorem dX3_appendRow_37 : decode cX3_appendRow 37 = .ok (.iload_n 3, 1) := by decide +kernel
theorem dX3_appendRow_38 : decode cX3_appendRow 38 = .ok (.iastore, 1) := by decide +kernel
theorem dX3_appendRow_39 : decode cX3_appendRow 39 = .ok (.iload 6, 2) := by decide +kernel
theorem dX3_appendRow_41 : decode cX3_appendRow 41 = .ok (.ireturn, 1) := by decide +kernel
set_option maxRecDepth 20000 in
theorem ggX3_isAble_X2_isInState : GoodIn wsX3_isAble wsX2_isInState := goodIn_r _ [7, 8, 9, 10, 11, 6, 12, 13, 14, 15, 16, 17, 18, 19, 20, 21, 22, 53, 54, 55, 56, 57, 58, 59, 60, 61, 62] (by decide +kernel) (by decide +kernel)
set_option maxRecDepth 20000 in
theorem gX3_isAble_X2_isInState : GoodIn wsX3_isAble (wsV RX3 96 RX2 yX2_isInState wsX2_isInState) := goodIn_app (goodIn_of _ (by decide +kernel)) ggX3_isAble_X2_isInState
set_option maxRecDepth 20000 in
theorem ggX3_isAble_X2_readAAt : GoodIn wsX3_isAble wsX2_readAAt := goodIn_r _ [26, 27, 14, 15, 16, 6, 17, 8, 53, 54, 55, 56, 57, 58, 59, 60, 61, 62] (by decide +kernel) (by decide +kernel)
set_option maxRecDepth 20000 in
theorem gX3_isAble_X2_readAAt : GoodIn wsX3_isAble (wsV RX3 203 RX2 yX2_readAAt wsX2_readAAt) := goodIn_app (goodIn_of _ (by decide +kernel)) ggX3_isAble_X2_readAAt
set_option maxRecDepth 20000 in
theorem ggX3_isAble_X1_isReadyOrNone : GoodIn wsX3_isAble wsX1_isReadyOrNone := goodIn_r _ [32, 33, 34, 35, 36, 31, 37, 38, 63, 64, 65, 66, 67] (by decide +kernel) (by decide +kernel)
set_option maxRecDepth 20000 in
theorem gX3_isAble_X1_isReadyOrNone : GoodIn wsX3_isAble (wsV RX3 236 RX1 yX1_isReadyOrNone wsX1_isReadyOrNone) := goodIn_app (goodIn_of _ (by decide +kernel)) ggX3_isAble_X1_isReadyOrNone
set_option maxRecDepth 20000 in
theorem ggX3_isAble_X2_readBAt : GoodIn wsX3_isAble wsX2_readBAt := goodIn_r _ [42, 43, 14, 15, 16, 6, 17, 8, 53, 54, 55, 56, 57, 58, 59, 60, 61, 62] (by decide +kernel) (by decide +kernel)
set_option maxRecDepth 20000 in
theorem gX3_isAble_X2_readBAt : GoodIn wsX3_isAble (wsV RX3 206 RX2 yX2_readBAt wsX2_readBAt) := goodIn_app (goodIn_of _ (by decide +kernel)) ggX3_isAble_X2_readBAt
theorem dX3_isAble_0 : decode cX3_isAble 0 = .ok (.aload_n 0, 1) := by decide +kernel
theorem dX3_isAble_1 : decode cX3_isAble 1 = .ok (.getfield 27, 3) := by decide +kernel
theorem dX3_isAble_4 : decode cX3_isAble 4 = .ok (.iload_n 1, 1) := by decide +kernel
theorem dX3_isAble_5 : decode cX3_isAble 5 = .ok (.iconst 0, 1) := by decide +kernel
theorem dX3_isAble_6 : decode cX3_isAble 6 = .ok (.invokevirtual 96, 3) := by decide +kernel
theorem dX3_isAble_9 : decode cX3_isAble 9 = .ok (.ifCond .eq 43, 3) := by decide +kernel
theorem dX3_isAble_12 : decode cX3_isAble 12 = .ok (.aload_n 0, 1) := by decide +kernel
theorem dX3_isAble_13 : decode cX3_isAble 13 = .ok (.getfield 18, 3) := by decide +kernel
theorem dX3_isAble_16 : decode cX3_isAble 16 = .ok (.aload_n 0, 1) := by decide +kernel
theorem dX3_isAble_17 : decode cX3_isAble 17 = .ok (.getfield 27, 3) := by decide +kernel
theorem dX3_isAble_20 : decode cX3_isAble 20 = .ok (.iload_n 1, 1) := by decide +kernel
theorem dX3_isAble_21 : decode cX3_isAble 21 = .ok (.invokevirtual 203, 3) := by decide +kernel
theorem dX3_isAble_24 : decode cX3_isAble 24 = .ok (.invokevirtual 236, 3) := by decide +kernel
theorem dX3_isAble_27 : decode cX3_isAble 27 = .ok (.ifCond .eq 25, 3) := by decide +kernel
theorem dX3_isAble_30 : decode cX3_isAble 30 = .ok (.aload_n 0, 1) := by decide +kernel
theorem dX3_isAble_31 : decode cX3_isAble 31 = .ok (.getfield 18, 3) := by decide +kernel
theorem dX3_isAble_34 : decode cX3_isAble 34 = .ok (.aload_n 0, 1) := by decide +kernel
theorem dX3_isAble_35 : decode cX3_isAble 35 = .ok (.getfield 27, 3) := by decide +kernel
theorem dX3_isAble_38 : decode cX3_isAble 38 = .ok (.iload_n 1, 1) := by decide +kernel
theorem dX3_isAble_39 : decode cX3_isAble 39 = .ok (.invokevirtual 206, 3) := by decide +kernel
theorem dX3_isAble_42 : decode cX3_isAble 42 = .ok (.invokevirtual 236, 3) := by decide +kernel
theorem dX3_isAble_45 : decode cX3_isAble 45 = .ok (.ifCond .eq 7, 3) := by decide +kernel
theorem dX3_isAble_48 : decode cX3_isAble 48 = .ok (.iconst 1, 1) := by decide +kernel
theorem dX3_isAble_49 : decode cX3_isAble 49 = .ok (.goto 4, 3) := by decide +kernel
theorem dX3_isAble_52 : decode cX3_isAble 52 = .ok (.iconst 0, 1) := by decide +kernel
theorem dX3_isAble_53 : decode cX3_isAble 53 = .ok (.ireturn, 1) := by decide +kernel
set_option maxRecDepth 20000 in
theorem ggX3_oldestAbleFor_X2_rowCount : GoodIn wsX3_oldestAbleFor wsX2_rowCount := goodIn_r _ [6, 7, 71, 72, 73, 74, 75, 76, 77, 78, 79, 80] (by decide +kernel) (by decide +kernel)
set_option maxRecDepth 20000 in
theorem gX3_oldestAbleFor_X2_rowCount : GoodIn wsX3_oldestAbleFor (wsV RX3 226 RX2 yX2_rowCount wsX2_rowCount) := goodIn_app (goodIn_of _ (by decide +kernel)) ggX3_oldestAbleFor_X2_rowCount
set_option maxRecDepth 20000 in
theorem ggX3_oldestAbleFor_X2_placeOfAge : GoodIn wsX3_oldestAbleFor wsX2_placeOfAge := goodIn_r _ [11, 12, 13, 71, 72, 73, 74, 75, 76, 77, 78, 79, 80] (by decide +kernel) (by decide +kernel)
set_option maxRecDepth 20000 in
theorem gX3_oldestAbleFor_X2_placeOfAge : GoodIn wsX3_oldestAbleFor (wsV RX3 239 RX2 yX2_placeOfAge wsX2_placeOfAge) := goodIn_app (goodIn_of _ (by decide +kernel)) ggX3_oldestAbleFor_X2_placeOfAge
set_option maxRecDepth 20000 in
theorem ggX3_oldestAbleFor_X2_portAt : GoodIn wsX3_oldestAbleFor wsX2_portAt := goodIn_r _ [17, 18, 19, 20, 21, 5, 22, 13, 71, 72, 73, 74, 75, 76, 77, 78, 79, 80] (by decide +kernel) (by decide +kernel)
set_option maxRecDepth 20000 in
theorem gX3_oldestAbleFor_X2_portAt : GoodIn wsX3_oldestAbleFor (wsV RX3 110 RX2 yX2_portAt wsX2_portAt) := goodIn_app (goodIn_of _ (by decide +kernel)) ggX3_oldestAbleFor_X2_portAt
set_option maxRecDepth 20000 in
theorem ggX3_oldestAbleFor_X3_isAble : GoodIn wsX3_oldestAbleFor wsX3_isAble := goodIn_r _ [27, 1, 28, 29, 30, 31, 5, 32, 13, 33, 34, 35, 36, 7, 19, 20, 21, 22, 37, 38, 39, 40, 12, 41, 42, 43, 44, 45, 46, 47, 48, 49, 50, 51, 52, 53, 54, 55, 56, 57, 58, 59, 60, 61, 62, 63, 64, 65, 66, 67, 68, 69, 70, 71, 72, 73, 74, 75, 76, 77, 78, 79, 80, 81, 82, 83, 84, 85] (by decide +kernel) (by decide +kernel)
set_option maxRecDepth 20000 in
theorem gX3_oldestAbleFor_X3_isAble : GoodIn wsX3_oldestAbleFor (wsV RX3 242 RX3 yX3_isAble wsX3_isAble) := goodIn_app (goodIn_of _ (by decide +kernel)) ggX3_oldestAbleFor_X3_isAble
theorem dX3_oldestAbleFor_0 : decode cX3_oldestAbleFor 0 = .ok (.iconst 0, 1) := by decide +kernel
theorem dX3_oldestAbleFor_1 : decode cX3_oldestAbleFor 1 = .ok (.istore_n 2, 1) := by decide +kernel
theorem dX3_oldestAbleFor_2 : decode cX3_oldestAbleFor 2 = .ok (.iload_n 2, 1) := by decide +kernel
theorem dX3_oldestAbleFor_3 : decode cX3_oldestAbleFor 3 = .ok (.aload_n 0, 1) := by decide +kernel
theorem dX3_oldestAbleFor_4 : decode cX3_oldestAbleFor 4 = .ok (.getfield 27, 3) := by decide +kernel
theorem dX3_oldestAbleFor_7 : decode cX3_oldestAbleFor 7 = .ok (.invokevirtual 226, 3) := by decide +kernel
theorem dX3_oldestAbleFor_10 : decode cX3_oldestAbleFor 10 = .ok (.if_icmp .ge 40, 3) := by decide +kernel
theorem dX3_oldestAbleFor_13 : decode cX3_oldestAbleFor 13 = .ok (.aload_n 0, 1) := by decide +kernel
theorem dX3_oldestAbleFor_14 : decode cX3_oldestAbleFor 14 = .ok (.getfield 27, 3) := by decide +kernel
theorem dX3_oldestAbleFor_17 : decode cX3_oldestAbleFor 17 = .ok (.iload_n 2, 1) := by decide +kernel
theorem dX3_oldestAbleFor_18 : decode cX3_oldestAbleFor 18 = .ok (.invokevirtual 239, 3) := by decide +kernel
theorem dX3_oldestAbleFor_21 : decode cX3_oldestAbleFor 21 = .ok (.istore_n 3, 1) := by decide +kernel
theorem dX3_oldestAbleFor_22 : decode cX3_oldestAbleFor 22 = .ok (.aload_n 0, 1) := by decide +kernel
theorem dX3_oldestAbleFor_23 : decode cX3_oldestAbleFor 23 = .ok (.getfield 27, 3) := by decide +kernel
theorem dX3_oldestAbleFor_26 : decode cX3_oldestAbleFor 26 = .ok (.iload_n 3, 1) := by decide +kernel
theorem dX3_oldestAbleFor_27 : decode cX3_oldestAbleFor 27 = .ok (.invokevirtual 110, 3) := by decide +kernel
theorem dX3_oldestAbleFor_30 : decode cX3_oldestAbleFor 30 = .ok (.iload_n 1, 1) := by decide +kernel
theorem dX3_oldestAbleFor_31 : decode cX3_oldestAbleFor 31 = .ok (.if_icmp .ne 13, 3) := by decide +kernel
theorem dX3_oldestAbleFor_34 : decode cX3_oldestAbleFor 34 = .ok (.aload_n 0, 1) := by decide +kernel
theorem dX3_oldestAbleFor_35 : decode cX3_oldestAbleFor 35 = .ok (.iload_n 3, 1) := by decide +kernel
theorem dX3_oldestAbleFor_36 : decode cX3_oldestAbleFor 36 = .ok (.invokevirtual 242, 3) := by decide +kernel
theorem dX3_oldestAbleFor_39 : decode cX3_oldestAbleFor 39 = .ok (.ifCond .eq 5, 3) := by decide +kernel
theorem dX3_oldestAbleFor_42 : decode cX3_oldestAbleFor 42 = .ok (.iload_n 3, 1) := by decide +kernel
theorem dX3_oldestAbleFor_43 : decode cX3_oldestAbleFor 43 = .ok (.ireturn, 1) := by decide +kernel
theorem dX3_oldestAbleFor_44 : decode cX3_oldestAbleFor 44 = .ok (.iinc 2 1, 3) := by decide +kernel
theorem dX3_oldestAbleFor_47 : decode cX3_oldestAbleFor 47 = .ok (.goto (-45), 3) := by decide +kernel
theorem dX3_oldestAbleFor_50 : decode cX3_oldestAbleFor 50 = .ok (.iconst (-1), 1) := by decide +kernel
theorem dX3_oldestAbleFor_51 : decode cX3_oldestAbleFor 51 = .ok (.ireturn, 1) := by decide +kernel
set_option maxRecDepth 20000 in
theorem ggX3_countAble_X2_rowCount : GoodIn wsX3_countAble wsX2_rowCount := goodIn_r _ [6, 7, 66, 67, 68, 69, 70, 71, 72, 73, 74, 75] (by decide +kernel) (by decide +kernel)
set_option maxRecDepth 20000 in
theorem gX3_countAble_X2_rowCount : GoodIn wsX3_countAble (wsV RX3 226 RX2 yX2_rowCount wsX2_rowCount) := goodIn_app (goodIn_of _ (by decide +kernel)) ggX3_countAble_X2_rowCount
set_option maxRecDepth 20000 in
theorem ggX3_countAble_X2_placeOfAge : GoodIn wsX3_countAble wsX2_placeOfAge := goodIn_r _ [11, 12, 13, 66, 67, 68, 69, 70, 71, 72, 73, 74, 75] (by decide +kernel) (by decide +kernel)
set_option maxRecDepth 20000 in
theorem gX3_countAble_X2_placeOfAge : GoodIn wsX3_countAble (wsV RX3 239 RX2 yX2_placeOfAge wsX2_placeOfAge) := goodIn_app (goodIn_of _ (by decide +kernel)) ggX3_countAble_X2_placeOfAge
set_option maxRecDepth 20000 in
theorem ggX3_countAble_X3_isAble : GoodIn wsX3_countAble wsX3_isAble := goodIn_r _ [18, 1, 19, 20, 21, 22, 5, 23, 13, 24, 25, 26, 27, 7, 28, 29, 30, 31, 32, 33, 34, 35, 12, 36, 37, 38, 39, 40, 41, 42, 43, 44, 45, 46, 47, 48, 49, 50, 51, 52, 53, 54, 55, 56, 57, 58, 59, 60, 61, 62, 63, 64, 65, 66, 67, 68, 69, 70, 71, 72, 73, 74, 75, 76, 77, 78, 79, 80] (by decide +kernel) (by decide +kernel)
set_option maxRecDepth 20000 in
theorem gX3_countAble_X3_isAble : GoodIn wsX3_countAble (wsV RX3 242 RX3 yX3_isAble wsX3_isAble) := goodIn_app (goodIn_of _ (by decide +kernel)) ggX3_countAble_X3_isAble
theorem dX3_countAble_0 : decode cX3_countAble 0 = .ok (.iconst 0, 1) := by decide +kernel
theorem dX3_countAble_1 : decode cX3_countAble 1 = .ok (.istore_n 1, 1) := by decide +kernel
theorem dX3_countAble_2 : decode cX3_countAble 2 = .ok (.iconst 0, 1) := by decide +kernel
theorem dX3_countAble_3 : decode cX3_countAble 3 = .ok (.istore_n 2, 1) := by decide +kernel
theorem dX3_countAble_4 : decode cX3_countAble 4 = .ok (.iload_n 2, 1) := by decide +kernel
theorem dX3_countAble_5 : decode cX3_countAble 5 = .ok (.aload_n 0, 1) := by decide +kernel
theorem dX3_countAble_6 : decode cX3_countAble 6 = .ok (.getfield 27, 3) := by decide +kernel
theorem dX3_countAble_9 : decode cX3_countAble 9 = .ok (.invokevirtual 226, 3) := by decide +kernel
theorem dX3_countAble_12 : decode cX3_countAble 12 = .ok (.if_icmp .ge 27, 3) := by decide +kernel
theorem dX3_countAble_15 : decode cX3_countAble 15 = .ok (.aload_n 0, 1) := by decide +kernel
theorem dX3_countAble_16 : decode cX3_countAble 16 = .ok (.aload_n 0, 1) := by decide +kernel
theorem dX3_countAble_17 : decode cX3_countAble 17 = .ok (.getfield 27, 3) := by decide +kernel
theorem dX3_countAble_20 : decode cX3_countAble 20 = .ok (.iload_n 2, 1) := by decide +kernel
theorem dX3_countAble_21 : decode cX3_countAble 21 = .ok (.invokevirtual 239, 3) := by decide +kernel
theorem dX3_countAble_24 : decode cX3_countAble 24 = .ok (.invokevirtual 242, 3) := by decide +kernel
theorem dX3_countAble_27 : decode cX3_countAble 27 = .ok (.ifCond .eq 6, 3) := by decide +kernel
theorem dX3_countAble_30 : decode cX3_countAble 30 = .ok (.iinc 1 1, 3) := by decide +kernel
theorem dX3_countAble_33 : decode cX3_countAble 33 = .ok (.iinc 2 1, 3) := by decide +kernel
theorem dX3_countAble_36 : decode cX3_countAble 36 = .ok (.goto (-32), 3) := by decide +kernel
theorem dX3_countAble_39 : decode cX3_countAble 39 = .ok (.iload_n 1, 1) := by decide +kernel
theorem dX3_countAble_40 : decode cX3_countAble 40 = .ok (.ireturn, 1) := by decide +kernel
set_option maxRecDepth 20000 in
theorem ggX3_rowsBeforeOldestMark_X0_oldest : GoodIn wsX3_rowsBeforeOldestMark wsX0_oldest := goodIn_r _ [7, 8, 9, 39, 40, 41] (by decide +kernel) (by decide +kernel)
set_option maxRecDepth 20000 in
theorem gX3_rowsBeforeOldestMark_X0_oldest : GoodIn wsX3_rowsBeforeOldestMark (wsV RX3 245 RX0 yX0_oldest wsX0_oldest) := goodIn_app (goodIn_of _ (by decide +kernel)) ggX3_rowsBeforeOldestMark_X0_oldest
set_option maxRecDepth 20000 in
theorem ggX3_rowsBeforeOldestMark_X2_rowCount : GoodIn wsX3_rowsBeforeOldestMark wsX2_rowCount := goodIn_r _ [14, 15, 42, 43, 44, 45, 46, 47, 48, 49, 50, 51] (by decide +kernel) (by decide +kernel)
set_option maxRecDepth 20000 in
theorem gX3_rowsBeforeOldestMark_X2_rowCount : GoodIn wsX3_rowsBeforeOldestMark (wsV RX3 226 RX2 yX2_rowCount wsX2_rowCount) := goodIn_app (goodIn_of _ (by decide +kernel)) ggX3_rowsBeforeOldestMark_X2_rowCount
set_option maxRecDepth 20000 in
theorem ggX3_rowsBeforeOldestMark_X0_rowsBefore : GoodIn wsX3_rowsBeforeOldestMark wsX0_rowsBefore := goodIn_r _ [19, 20, 21, 22, 23, 6, 24, 39, 40, 41] (by decide +kernel) (by decide +kernel)
set_option maxRecDepth 20000 in
theorem gX3_rowsBeforeOldestMark_X0_rowsBefore : GoodIn wsX3_rowsBeforeOldestMark (wsV RX3 173 RX0 yX0_rowsBefore wsX0_rowsBefore) := goodIn_app (goodIn_of _ (by decide +kernel)) ggX3_rowsBeforeOldestMark_X0_rowsBefore
set_option maxRecDepth 20000 in
theorem ggX3_rowsBeforeOldestMark_X2_doneCount : GoodIn wsX3_rowsBeforeOldestMark wsX2_doneCount := goodIn_r _ [28, 29, 42, 43, 44, 45, 46, 47, 48, 49, 50, 51] (by decide +kernel) (by decide +kernel)
set_option maxRecDepth 20000 in
theorem gX3_rowsBeforeOldestMark_X2_doneCount : GoodIn wsX3_rowsBeforeOldestMark (wsV RX3 229 RX2 yX2_doneCount wsX2_doneCount) := goodIn_app (goodIn_of _ (by decide +kernel)) ggX3_rowsBeforeOldestMark_X2_doneCount
theorem dX3_rowsBeforeOldestMark_0 : decode cX3_rowsBeforeOldestMark 0 = .ok (.aload_n 0, 1) := by decide +kernel
theorem dX3_rowsBeforeOldestMark_1 : decode cX3_rowsBeforeOldestMark 1 = .ok (.getfield 34, 3) := by decide +kernel
theorem dX3_rowsBeforeOldestMark_4 : decode cX3_rowsBeforeOldestMark 4 = .ok (.invokevirtual 245, 3) := by decide +kernel
theorem dX3_rowsBeforeOldestMark_7 : decode cX3_rowsBeforeOldestMark 7 = .ok (.istore_n 1, 1) := by decide +kernel
theorem dX3_rowsBeforeOldestMark_8 : decode cX3_rowsBeforeOldestMark 8 = .ok (.iload_n 1, 1) := by decide +kernel
theorem dX3_rowsBeforeOldestMark_9 : decode cX3_rowsBeforeOldestMark 9 = .ok (.iconst (-1), 1) := by decide +kernel
theorem dX3_rowsBeforeOldestMark_10 : decode cX3_rowsBeforeOldestMark 10 = .ok (.if_icmp .ne 13, 3) := by decide +kernel
theorem dX3_rowsBeforeOldestMark_13 : decode cX3_rowsBeforeOldestMark 13 = .ok (.aload_n 0, 1) := by decide +kernel
theorem dX3_rowsBeforeOldestMark_14 : decode cX3_rowsBeforeOldestMark 14 = .ok (.getfield 27, 3) := by decide +kernel
theorem dX3_rowsBeforeOldestMark_17 : decode cX3_rowsBeforeOldestMark 17 = .ok (.invokevirtual 226, 3) := by decide +kernel
theorem dX3_rowsBeforeOldestMark_20 : decode cX3_rowsBeforeOldestMark 20 = .ok (.goto 19, 3) := by decide +kernel
theorem dX3_rowsBeforeOldestMark_23 : decode cX3_rowsBeforeOldestMark 23 = .ok (.aload_n 0, 1) := by decide +kernel
theorem dX3_rowsBeforeOldestMark_24 : decode cX3_rowsBeforeOldestMark 24 = .ok (.getfield 34, 3) := by decide +kernel
theorem dX3_rowsBeforeOldestMark_27 : decode cX3_rowsBeforeOldestMark 27 = .ok (.iload_n 1, 1) := by decide +kernel
theorem dX3_rowsBeforeOldestMark_28 : decode cX3_rowsBeforeOldestMark 28 = .ok (.invokevirtual 173, 3) := by decide +kernel
theorem dX3_rowsBeforeOldestMark_31 : decode cX3_rowsBeforeOldestMark 31 = .ok (.aload_n 0, 1) := by decide +kernel
theorem dX3_rowsBeforeOldestMark_32 : decode cX3_rowsBeforeOldestMark 32 = .ok (.getfield 27, 3) := by decide +kernel
theorem dX3_rowsBeforeOldestMark_35 : decode cX3_rowsBeforeOldestMark 35 = .ok (.invokevirtual 229, 3) := by decide +kernel
theorem dX3_rowsBeforeOldestMark_38 : decode cX3_rowsBeforeOldestMark 38 = .ok (.isub, 1) := by decide +kernel
theorem dX3_rowsBeforeOldestMark_39 : decode cX3_rowsBeforeOldestMark 39 = .ok (.ireturn, 1) := by decide +kernel
set_option maxRecDepth 20000 in
theorem ggX3_finishOldest_X2_oldestPlace : GoodIn wsX3_finishOldest wsX2_oldestPlace := goodIn_r _ [8, 9, 10, 72, 73, 74, 75, 76, 77, 78, 79, 80, 81] (by decide +kernel) (by decide +kernel)
set_option maxRecDepth 20000 in
theorem gX3_finishOldest_X2_oldestPlace : GoodIn wsX3_finishOldest (wsV RX3 145 RX2 yX2_oldestPlace wsX2_oldestPlace) := goodIn_app (goodIn_of _ (by decide +kernel)) ggX3_finishOldest_X2_oldestPlace
set_option maxRecDepth 20000 in
theorem ggX3_finishOldest_X2_registerAt : GoodIn wsX3_finishOldest wsX2_registerAt := goodIn_r _ [14, 15, 16, 17, 18, 7, 19, 20, 72, 73, 74, 75, 76, 77, 78, 79, 80, 81] (by decide +kernel) (by decide +kernel)
set_option maxRecDepth 20000 in
theorem gX3_finishOldest_X2_registerAt : GoodIn wsX3_finishOldest (wsV RX3 212 RX2 yX2_registerAt wsX2_registerAt) := goodIn_app (goodIn_of _ (by decide +kernel)) ggX3_finishOldest_X2_registerAt
set_option maxRecDepth 20000 in
theorem ggX3_finishOldest_X3_isRegister : GoodIn wsX3_finishOldest wsX3_isRegister := goodIn_r _ [25, 26, 63, 64, 65, 66, 67, 68, 69, 70, 71] (by decide +kernel) (by decide +kernel)
set_option maxRecDepth 20000 in
theorem gX3_finishOldest_X3_isRegister : GoodIn wsX3_finishOldest (wsV RX3 85 RX3 yX3_isRegister wsX3_isRegister) := goodIn_app (goodIn_of _ (by decide +kernel)) ggX3_finishOldest_X3_isRegister
set_option maxRecDepth 20000 in
theorem ggX3_finishOldest_X2_givenAt : GoodIn wsX3_finishOldest wsX2_givenAt := goodIn_r _ [30, 31, 16, 17, 18, 7, 19, 20, 72, 73, 74, 75, 76, 77, 78, 79, 80, 81] (by decide +kernel) (by decide +kernel)
set_option maxRecDepth 20000 in
theorem gX3_finishOldest_X2_givenAt : GoodIn wsX3_finishOldest (wsV RX3 129 RX2 yX2_givenAt wsX2_givenAt) := goodIn_app (goodIn_of _ (by decide +kernel)) ggX3_finishOldest_X2_givenAt
set_option maxRecDepth 20000 in
theorem ggX3_finishOldest_X2_knownAt : GoodIn wsX3_finishOldest wsX2_knownAt := goodIn_r _ [35, 36, 16, 17, 18, 7, 19, 20, 72, 73, 74, 75, 76, 77, 78, 79, 80, 81] (by decide +kernel) (by decide +kernel)
set_option maxRecDepth 20000 in
theorem gX3_finishOldest_X2_knownAt : GoodIn wsX3_finishOldest (wsV RX3 209 RX2 yX2_knownAt wsX2_knownAt) := goodIn_app (goodIn_of _ (by decide +kernel)) ggX3_finishOldest_X2_knownAt
set_option maxRecDepth 20000 in
theorem ggX3_finishOldest_X1_giveBack : GoodIn wsX3_finishOldest wsX1_giveBack := goodIn_r _ [41, 42, 43, 44, 45, 46, 47, 40, 48, 49, 50, 51, 52, 53, 82, 83, 84, 85, 86] (by decide +kernel) (by decide +kernel)
set_option maxRecDepth 20000 in
theorem gX3_finishOldest_X1_giveBack : GoodIn wsX3_finishOldest (wsV RX3 248 RX1 yX1_giveBack wsX1_giveBack) := goodIn_app (goodIn_of _ (by decide +kernel)) ggX3_finishOldest_X1_giveBack
set_option maxRecDepth 20000 in
theorem ggX3_finishOldest_X2_dropOldest : GoodIn wsX3_finishOldest wsX2_dropOldest := goodIn_r _ [57, 9, 10, 58, 59, 60, 61, 7, 62, 20, 72, 73, 74, 75, 76, 77, 78, 79, 80, 81] (by decide +kernel) (by decide +kernel)
set_option maxRecDepth 20000 in
theorem gX3_finishOldest_X2_dropOldest : GoodIn wsX3_finishOldest (wsV RX3 251 RX2 yX2_dropOldest wsX2_dropOldest) := goodIn_app (goodIn_of _ (by decide +kernel)) ggX3_finishOldest_X2_dropOldest
theorem dX3_finishOldest_0 : decode cX3_finishOldest 0 = .ok (.aload_n 0, 1) := by decide +kernel
theorem dX3_finishOldest_1 : decode cX3_finishOldest 1 = .ok (.getfield 27, 3) := by decide +kernel
theorem dX3_finishOldest_4 : decode cX3_finishOldest 4 = .ok (.invokevirtual 145, 3) := by decide +kernel
theorem dX3_finishOldest_7 : decode cX3_finishOldest 7 = .ok (.istore_n 1, 1) := by decide +kernel
theorem dX3_finishOldest_8 : decode cX3_finishOldest 8 = .ok (.aload_n 0, 1) := by decide +kernel
theorem dX3_finishOldest_9 : decode cX3_finishOldest 9 = .ok (.getfield 27, 3) := by decide +kernel
theorem dX3_finishOldest_12 : decode cX3_finishOldest 12 = .ok (.iload_n 1, 1) := by decide +kernel
theorem dX3_finishOldest_13 : decode cX3_finishOldest 13 = .ok (.invokevirtual 212, 3) := by decide +kernel
theorem dX3_finishOldest_16 : decode cX3_finishOldest 16 = .ok (.istore_n 2, 1) := by decide +kernel
theorem dX3_finishOldest_17 : decode cX3_finishOldest 17 = .ok (.aload_n 0, 1) := by decide +kernel
theorem dX3_finishOldest_18 : decode cX3_finishOldest 18 = .ok (.iload_n 2, 1) := by decide +kernel
theorem dX3_finishOldest_19 : decode cX3_finishOldest 19 = .ok (.invokevirtual 85, 3) := by decide +kernel
theorem dX3_finishOldest_22 : decode cX3_finishOldest 22 = .ok (.ifCond .eq 32, 3) := by decide +kernel
theorem dX3_finishOldest_25 : decode cX3_finishOldest 25 = .ok (.aload_n 0, 1) := by decide +kernel
theorem dX3_finishOldest_26 : decode cX3_finishOldest 26 = .ok (.getfield 42, 3) := by decide +kernel
theorem dX3_finishOldest_29 : decode cX3_finishOldest 29 = .ok (.iload_n 2, 1) := by decide +kernel
theorem dX3_finishOldest_30 : decode cX3_finishOldest 30 = .ok (.aload_n 0, 1) := by decide +kernel
theorem dX3_finishOldest_31 : decode cX3_finishOldest 31 = .ok (.getfield 27, 3) := by decide +kernel
theorem dX3_finishOldest_34 : decode cX3_finishOldest 34 = .ok (.iload_n 1, 1) := by decide +kernel
theorem dX3_finishOldest_35 : decode cX3_finishOldest 35 = .ok (.invokevirtual 129, 3) := by decide +kernel
theorem dX3_finishOldest_38 : decode cX3_finishOldest 38 = .ok (.iastore, 1) := by decide +kernel
theorem dX3_finishOldest_39 : decode cX3_finishOldest 39 = .ok (.aload_n 0, 1) := by decide +kernel
theorem dX3_finishOldest_40 : decode cX3_finishOldest 40 = .ok (.getfield 18, 3) := by decide +kernel
theorem dX3_finishOldest_43 : decode cX3_finishOldest 43 = .ok (.aload_n 0, 1) := by decide +kernel
theorem dX3_finishOldest_44 : decode cX3_finishOldest 44 = .ok (.getfield 27, 3) := by decide +kernel
theorem dX3_finishOldest_47 : decode cX3_finishOldest 47 = .ok (.iload_n 1, 1) := by decide +kernel
theorem dX3_finishOldest_48 : decode cX3_finishOldest 48 = .ok (.invokevirtual 209, 3) := by decide +kernel
theorem dX3_finishOldest_51 : decode cX3_finishOldest 51 = .ok (.invokevirtual 248, 3) := by decide +kernel
theorem dX3_finishOldest_54 : decode cX3_finishOldest 54 = .ok (.aload_n 0, 1) := by decide +kernel
theorem dX3_finishOldest_55 : decode cX3_finishOldest 55 = .ok (.getfield 27, 3) := by decide +kernel
theorem dX3_finishOldest_58 : decode cX3_finishOldest 58 = .ok (.invokevirtual 251, 3) := by decide +kernel
theorem dX3_finishOldest_61 : decode cX3_finishOldest 61 = .ok (.return_, 1) := by decide +kernel
set_option maxRecDepth 20000 in
theorem ggX3_takeBackLast_X2_lastPlace : GoodIn wsX3_takeBackLast wsX2_lastPlace := goodIn_r _ [8, 9, 10, 11, 12, 7, 13, 14, 15, 70, 71, 72, 73, 74, 75, 76, 77, 78, 79] (by decide +kernel) (by decide +kernel)
set_option maxRecDepth 20000 in
theorem gX3_takeBackLast_X2_lastPlace : GoodIn wsX3_takeBackLast (wsV RX3 254 RX2 yX2_lastPlace wsX2_lastPlace) := goodIn_app (goodIn_of _ (by decide +kernel)) ggX3_takeBackLast_X2_lastPlace
set_option maxRecDepth 20000 in
theorem ggX3_takeBackLast_X2_registerAt : GoodIn wsX3_takeBackLast wsX2_registerAt := goodIn_r _ [19, 20, 21, 22, 23, 7, 24, 15, 70, 71, 72, 73, 74, 75, 76, 77, 78, 79] (by decide +kernel) (by decide +kernel)
set_option maxRecDepth 20000 in
theorem gX3_takeBackLast_X2_registerAt : GoodIn wsX3_takeBackLast (wsV RX3 212 RX2 yX2_registerAt wsX2_registerAt) := goodIn_app (goodIn_of _ (by decide +kernel)) ggX3_takeBackLast_X2_registerAt
set_option maxRecDepth 20000 in
theorem ggX3_takeBackLast_X3_isRegister : GoodIn wsX3_takeBackLast wsX3_isRegister := goodIn_r _ [29, 3, 61, 62, 63, 64, 65, 66, 67, 68, 69] (by decide +kernel) (by decide +kernel)
set_option maxRecDepth 20000 in
theorem gX3_takeBackLast_X3_isRegister : GoodIn wsX3_takeBackLast (wsV RX3 85 RX3 yX3_isRegister wsX3_isRegister) := goodIn_app (goodIn_of _ (by decide +kernel)) ggX3_takeBackLast_X3_isRegister
set_option maxRecDepth 20000 in
theorem ggX3_takeBackLast_X2_givenAt : GoodIn wsX3_takeBackLast wsX2_givenAt := goodIn_r _ [33, 34, 21, 22, 23, 7, 24, 15, 70, 71, 72, 73, 74, 75, 76, 77, 78, 79] (by decide +kernel) (by decide +kernel)
set_option maxRecDepth 20000 in
theorem gX3_takeBackLast_X2_givenAt : GoodIn wsX3_takeBackLast (wsV RX3 129 RX2 yX2_givenAt wsX2_givenAt) := goodIn_app (goodIn_of _ (by decide +kernel)) ggX3_takeBackLast_X2_givenAt
set_option maxRecDepth 20000 in
theorem ggX3_takeBackLast_X1_giveBack : GoodIn wsX3_takeBackLast wsX1_giveBack := goodIn_r _ [39, 40, 41, 42, 43, 44, 45, 38, 46, 47, 48, 49, 50, 51, 80, 81, 82, 83, 84] (by decide +kernel) (by decide +kernel)
set_option maxRecDepth 20000 in
theorem gX3_takeBackLast_X1_giveBack : GoodIn wsX3_takeBackLast (wsV RX3 248 RX1 yX1_giveBack wsX1_giveBack) := goodIn_app (goodIn_of _ (by decide +kernel)) ggX3_takeBackLast_X1_giveBack
set_option maxRecDepth 20000 in
theorem ggX3_takeBackLast_X2_knownAt : GoodIn wsX3_takeBackLast wsX2_knownAt := goodIn_r _ [55, 56, 21, 22, 23, 7, 24, 15, 70, 71, 72, 73, 74, 75, 76, 77, 78, 79] (by decide +kernel) (by decide +kernel)
set_option maxRecDepth 20000 in
theorem gX3_takeBackLast_X2_knownAt : GoodIn wsX3_takeBackLast (wsV RX3 209 RX2 yX2_knownAt wsX2_knownAt) := goodIn_app (goodIn_of _ (by decide +kernel)) ggX3_takeBackLast_X2_knownAt
set_option maxRecDepth 20000 in
theorem ggX3_takeBackLast_X2_dropLast : GoodIn wsX3_takeBackLast wsX2_dropLast := goodIn_r _ [60, 9, 70, 71, 72, 73, 74, 75, 76, 77, 78, 79] (by decide +kernel) (by decide +kernel)
set_option maxRecDepth 20000 in
theorem gX3_takeBackLast_X2_dropLast : GoodIn wsX3_takeBackLast (wsV RX3 257 RX2 yX2_dropLast wsX2_dropLast) := goodIn_app (goodIn_of _ (by decide +kernel)) ggX3_takeBackLast_X2_dropLast
theorem dX3_takeBackLast_0 : decode cX3_takeBackLast 0 = .ok (.aload_n 0, 1) := by decide +kernel
theorem dX3_takeBackLast_1 : decode cX3_takeBackLast 1 = .ok (.getfield 27, 3) := by decide +kernel
theorem dX3_takeBackLast_4 : decode cX3_takeBackLast 4 = .ok (.invokevirtual 254, 3) := by decide +kernel
theorem dX3_takeBackLast_7 : decode cX3_takeBackLast 7 = .ok (.istore_n 1, 1) := by decide +kernel
theorem dX3_takeBackLast_8 : decode cX3_takeBackLast 8 = .ok (.aload_n 0, 1) := by decide +kernel
theorem dX3_takeBackLast_9 : decode cX3_takeBackLast 9 = .ok (.getfield 27, 3) := by decide +kernel
theorem dX3_takeBackLast_12 : decode cX3_takeBackLast 12 = .ok (.iload_n 1, 1) := by decide +kernel
theorem dX3_takeBackLast_13 : decode cX3_takeBackLast 13 = .ok (.invokevirtual 212, 3) := by decide +kernel
theorem dX3_takeBackLast_16 : decode cX3_takeBackLast 16 = .ok (.istore_n 2, 1) := by decide +kernel
theorem dX3_takeBackLast_17 : decode cX3_takeBackLast 17 = .ok (.aload_n 0, 1) := by decide +kernel
theorem dX3_takeBackLast_18 : decode cX3_takeBackLast 18 = .ok (.iload_n 2, 1) := by decide +kernel
theorem dX3_takeBackLast_19 : decode cX3_takeBackLast 19 = .ok (.invokevirtual 85, 3) := by decide +kernel
theorem dX3_takeBackLast_22 : decode cX3_takeBackLast 22 = .ok (.ifCond .eq 32, 3) := by decide +kernel
theorem dX3_takeBackLast_25 : decode cX3_takeBackLast 25 = .ok (.aload_n 0, 1) := by decide +kernel
theorem dX3_takeBackLast_26 : decode cX3_takeBackLast 26 = .ok (.getfield 18, 3) := by decide +kernel
theorem dX3_takeBackLast_29 : decode cX3_takeBackLast 29 = .ok (.aload_n 0, 1) := by decide +kernel
theorem dX3_takeBackLast_30 : decode cX3_takeBackLast 30 = .ok (.getfield 27, 3) := by decide +kernel
theorem dX3_takeBackLast_33 : decode cX3_takeBackLast 33 = .ok (.iload_n 1, 1) := by decide +kernel
theorem dX3_takeBackLast_34 : decode cX3_takeBackLast 34 = .ok (.invokevirtual 129, 3) := by decide +kernel
theorem dX3_takeBackLast_37 : decode cX3_takeBackLast 37 = .ok (.invokevirtual 248, 3) := by decide +kernel
theorem dX3_takeBackLast_40 : decode cX3_takeBackLast 40 = .ok (.aload_n 0, 1) := by decide +kernel
theorem dX3_takeBackLast_41 : decode cX3_takeBackLast 41 = .ok (.getfield 38, 3) := by decide +kernel
theorem dX3_takeBackLast_44 : decode cX3_takeBackLast 44 = .ok (.iload_n 2, 1) := by decide +kernel
theorem dX3_takeBackLast_45 : decode cX3_takeBackLast 45 = .ok (.aload_n 0, 1) := by decide +kernel
theorem dX3_takeBackLast_46 : decode cX3_takeBackLast 46 = .ok (.getfield 27, 3) := by decide +kernel
theorem dX3_takeBackLast_49 : decode cX3_takeBackLast 49 = .ok (.iload_n 1, 1) := by decide +kernel
theorem dX3_takeBackLast_50 : decode cX3_takeBackLast 50 = .ok (.invokevirtual 209, 3) := by decide +kernel
theorem dX3_takeBackLast_53 : decode cX3_takeBackLast 53 = .ok (.iastore, 1) := by decide +kernel
theorem dX3_takeBackLast_54 : decode cX3_takeBackLast 54 = .ok (.aload_n 0, 1) := by decide +kernel
theorem dX3_takeBackLast_55 : decode cX3_takeBackLast 55 = .ok (.getfield 27, 3) := by decide +kernel
theorem dX3_takeBackLast_58 : decode cX3_takeBackLast 58 = .ok (.invokevirtual 257, 3) := by decide +kernel
theorem dX3_takeBackLast_61 : decode cX3_takeBackLast 61 = .ok (.return_, 1) := by decide +kernel
end
section
set_option maxRecDepth 20000 in
theorem ggX4_init_X4_rest : GoodIn wsX4_init wsX4_rest := goodIn_r _ [29] (by decide +kernel) (by decide +kernel)
set_option maxRecDepth 20000 in
theorem gX4_init_X4_rest : GoodIn wsX4_init (va_wsS RX4 59 yX4_rest wsX4_rest) := goodIn_app (goodIn_of _ (by decide +kernel)) ggX4_init_X4_rest
theorem dX4_init_0 : decode cX4_init 0 = .ok (.aload_n 0, 1) := by decide +kernel
theorem dX4_init_1 : decode cX4_init 1 = .ok (.invokespecial 1, 3) := by decide +kernel
theorem dX4_init_4 : decode cX4_init 4 = .ok (.aload_n 0, 1) := by decide +kernel
theorem dX4_init_5 : decode cX4_init 5 = .ok (.bipush 32, 2) := by decide +kernel
theorem dX4_init_7 : decode cX4_init 7 = .ok (.newarray .int, 2) := by decide +kernel
theorem dX4_init_9 : decode cX4_init 9 = .ok (.putfield 7, 3) := by decide +kernel
theorem dX4_init_12 : decode cX4_init 12 = .ok (.aload_n 0, 1) := by decide +kernel
theorem dX4_init_13 : decode cX4_init 13 = .ok (.bipush 32, 2) := by decide +kernel
theorem dX4_init_15 : decode cX4_init 15 = .ok (.newarray .int, 2) := by decide +kernel
theorem dX4_init_17 : decode cX4_init 17 = .ok (.putfield 13, 3) := by decide +kernel
theorem dX4_init_20 : decode cX4_init 20 = .ok (.aload_n 0, 1) := by decide +kernel
theorem dX4_init_21 : decode cX4_init 21 = .ok (.bipush 96, 2) := by decide +kernel
theorem dX4_init_23 : decode cX4_init 23 = .ok (.newarray .int, 2) := by decide +kernel
theorem dX4_init_25 : decode cX4_init 25 = .ok (.putfield 16, 3) := by decide +kernel
theorem dX4_init_28 : decode cX4_init 28 = .ok (.aload_n 0, 1) := by decide +kernel
theorem dX4_init_29 : decode cX4_init 29 = .ok (.bipush 96, 2) := by decide +kernel
theorem dX4_init_31 : decode cX4_init 31 = .ok (.newarray .boolean, 2) := by decide +kernel
theorem dX4_init_33 : decode cX4_init 33 = .ok (.putfield 19, 3) := by decide +kernel
theorem dX4_init_36 : decode cX4_init 36 = .ok (.aload_n 0, 1) := by decide +kernel
theorem dX4_init_37 : decode cX4_init 37 = .ok (.bipush 96, 2) := by decide +kernel
theorem dX4_init_39 : decode cX4_init 39 = .ok (.newarray .int, 2) := by decide +kernel
theorem dX4_init_41 : decode cX4_init 41 = .ok (.putfield 23, 3) := by decide +kernel
theorem dX4_init_44 : decode cX4_init 44 = .ok (.aload_n 0, 1) := by decide +kernel
theorem dX4_init_45 : decode cX4_init 45 = .ok (.bipush 64, 2) := by decide +kernel
theorem dX4_init_47 : decode cX4_init 47 = .ok (.newarray .int, 2) := by decide +kernel
theorem dX4_init_49 : decode cX4_init 49 = .ok (.putfield 26, 3) := by decide +kernel
theorem dX4_init_52 : decode cX4_init 52 = .ok (.aload_n 0, 1) := by decide +kernel
theorem dX4_init_53 : decode cX4_init 53 = .ok (.bipush 64, 2) := by decide +kernel
theorem dX4_init_55 : decode cX4_init 55 = .ok (.newarray .int, 2) := by decide +kernel
theorem dX4_init_57 : decode cX4_init 57 = .ok (.putfield 29, 3) := by decide +kernel
theorem dX4_init_60 : decode cX4_init 60 = .ok (.aload_n 0, 1) := by decide +kernel
theorem dX4_init_61 : decode cX4_init 61 = .ok (.bipush 64, 2) := by decide +kernel
theorem dX4_init_63 : decode cX4_init 63 = .ok (.newarray .int, 2) := by decide +kernel
theorem dX4_init_65 : decode cX4_init 65 = .ok (.putfield 32, 3) := by decide +kernel
theorem dX4_init_68 : decode cX4_init 68 = .ok (.aload_n 0, 1) := by decide +kernel
theorem dX4_init_69 : decode cX4_init 69 = .ok (.bipush 64, 2) := by decide +kernel
theorem dX4_init_71 : decode cX4_init 71 = .ok (.newarray .int, 2) := by decide +kernel
theorem dX4_init_73 : decode cX4_init 73 = .ok (.putfield 35, 3) := by decide +kernel
theorem dX4_init_76 : decode cX4_init 76 = .ok (.aload_n 0, 1) := by decide +kernel
theorem dX4_init_77 : decode cX4_init 77 = .ok (.bipush 64, 2) := by decide +kernel
theorem dX4_init_79 : decode cX4_init 79 = .ok (.newarray .int, 2) := by decide +kernel
theorem dX4_init_81 : decode cX4_init 81 = .ok (.putfield 38, 3) := by decide +kernel
theorem dX4_init_84 : decode cX4_init 84 = .ok (.aload_n 0, 1) := by decide +kernel
theorem dX4_init_85 : decode cX4_init 85 = .ok (.bipush 64, 2) := by decide +kernel
theorem dX4_init_87 : decode cX4_init 87 = .ok (.newarray .int, 2) := by decide +kernel
theorem dX4_init_89 : decode cX4_init 89 = .ok (.putfield 41, 3) := by decide +kernel
theorem dX4_init_92 : decode cX4_init 92 = .ok (.aload_n 0, 1) := by decide +kernel
theorem dX4_init_93 : decode cX4_init 93 = .ok (.bipush 64, 2) := by decide +kernel
theorem dX4_init_95 : decode cX4_init 95 = .ok (.newarray .int, 2) := by decide +kernel
theorem dX4_init_97 : decode cX4_init 97 = .ok (.putfield 44, 3) := by decide +kernel
theorem dX4_init_100 : decode cX4_init 100 = .ok (.aload_n 0, 1) := by decide +kernel
theorem dX4_init_101 : decode cX4_init 101 = .ok (.bipush 8, 2) := by decide +kernel
theorem dX4_init_103 : decode cX4_init 103 = .ok (.newarray .boolean, 2) := by decide +kernel
theorem dX4_init_105 : decode cX4_init 105 = .ok (.putfield 47, 3) := by decide +kernel
theorem dX4_init_108 : decode cX4_init 108 = .ok (.aload_n 0, 1) := by decide +kernel
theorem dX4_init_109 : decode cX4_init 109 = .ok (.bipush 8, 2) := by decide +kernel
theorem dX4_init_111 : decode cX4_init 111 = .ok (.newarray .int, 2) := by decide +kernel
theorem dX4_init_113 : decode cX4_init 113 = .ok (.putfield 50, 3) := by decide +kernel
theorem dX4_init_116 : decode cX4_init 116 = .ok (.aload_n 0, 1) := by decide +kernel
theorem dX4_init_117 : decode cX4_init 117 = .ok (.bipush 8, 2) := by decide +kernel
theorem dX4_init_119 : decode cX4_init 119 = .ok (.newarray .int, 2) := by decide +kernel
theorem dX4_init_121 : decode cX4_init 121 = .ok (.putfield 53, 3) := by decide +kernel
theorem dX4_init_124 : decode cX4_init 124 = .ok (.aload_n 0, 1) := by decide +kernel
theorem dX4_init_125 : decode cX4_init 125 = .ok (.bipush 8, 2) := by decide +kernel
theorem dX4_init_127 : decode cX4_init 127 = .ok (.newarray .int, 2) := by decide +kernel
theorem dX4_init_129 : decode cX4_init 129 = .ok (.dup, 1) := by decide +kernel
theorem dX4_init_130 : decode cX4_init 130 = .ok (.iconst 0, 1) := by decide +kernel
theorem dX4_init_131 : decode cX4_init 131 = .ok (.iconst (-1), 1) := by decide +kernel
theorem dX4_init_132 : decode cX4_init 132 = .ok (.iastore, 1) := by decide +kernel
theorem dX4_init_133 : decode cX4_init 133 = .ok (.dup, 1) := by decide +kernel
theorem dX4_init_134 : decode cX4_init 134 = .ok (.iconst 1, 1) := by decide +kernel
theorem dX4_init_135 : decode cX4_init 135 = .ok (.iconst (-1), 1) := by decide +kernel
theorem dX4_init_136 : decode cX4_init 136 = .ok (.iastore, 1) := by decide +kernel
theorem dX4_init_137 : decode cX4_init 137 = .ok (.dup, 1) := by decide +kernel
theorem dX4_init_138 : decode cX4_init 138 = .ok (.iconst 2, 1) := by decide +kernel
theorem dX4_init_139 : decode cX4_init 139 = .ok (.iconst (-1), 1) := by decide +kernel
theorem dX4_init_140 : decode cX4_init 140 = .ok (.iastore, 1) := by decide +kernel
theorem dX4_init_141 : decode cX4_init 141 = .ok (.dup, 1) := by decide +kernel
theorem dX4_init_142 : decode cX4_init 142 = .ok (.iconst 3, 1) := by decide +kernel
theorem dX4_init_143 : decode cX4_init 143 = .ok (.iconst (-1), 1) := by decide +kernel
theorem dX4_init_144 : decode cX4_init 144 = .ok (.iastore, 1) := by decide +kernel
theorem dX4_init_145 : decode cX4_init 145 = .ok (.dup, 1) := by decide +kernel
theorem dX4_init_146 : decode cX4_init 146 = .ok (.iconst 4, 1) := by decide +kernel
theorem dX4_init_147 : decode cX4_init 147 = .ok (.iconst (-1), 1) := by decide +kernel
theorem dX4_init_148 : decode cX4_init 148 = .ok (.iastore, 1) := by decide +kernel
theorem dX4_init_149 : decode cX4_init 149 = .ok (.dup, 1) := by decide +kernel
theorem dX4_init_150 : decode cX4_init 150 = .ok (.iconst 5, 1) := by decide +kernel
theorem dX4_init_151 : decode cX4_init 151 = .ok (.iconst (-1), 1) := by decide +kernel
theorem dX4_init_152 : decode cX4_init 152 = .ok (.iastore, 1) := by decide +kernel
theorem dX4_init_153 : decode cX4_init 153 = .ok (.dup, 1) := by decide +kernel
theorem dX4_init_154 : decode cX4_init 154 = .ok (.bipush 6, 2) := by decide +kernel
theorem dX4_init_156 : decode cX4_init 156 = .ok (.iconst (-1), 1) := by decide +kernel
theorem dX4_init_157 : decode cX4_init 157 = .ok (.iastore, 1) := by decide +kernel
theorem dX4_init_158 : decode cX4_init 158 = .ok (.dup, 1) := by decide +kernel
theorem dX4_init_159 : decode cX4_init 159 = .ok (.bipush 7, 2) := by decide +kernel
theorem dX4_init_161 : decode cX4_init 161 = .ok (.iconst (-1), 1) := by decide +kernel
theorem dX4_init_162 : decode cX4_init 162 = .ok (.iastore, 1) := by decide +kernel
theorem dX4_init_163 : decode cX4_init 163 = .ok (.putfield 56, 3) := by decide +kernel
theorem dX4_init_166 : decode cX4_init 166 = .ok (.aload_n 0, 1) := by decide +kernel
theorem dX4_init_167 : decode cX4_init 167 = .ok (.iconst 1, 1) := by decide +kernel
theorem dX4_init_168 : decode cX4_init 168 = .ok (.iload_n 1, 1) := by decide +kernel
theorem dX4_init_169 : decode cX4_init 169 = .ok (.iconst 1, 1) := by decide +kernel
theorem dX4_init_170 : decode cX4_init 170 = .ok (.isub, 1) := by decide +kernel
theorem dX4_init_171 : decode cX4_init 171 = .ok (.bipush 32, 2) := by decide +kernel
theorem dX4_init_173 : decode cX4_init 173 = .ok (.invokestatic 59, 3) := by decide +kernel
theorem dX4_init_176 : decode cX4_init 176 = .ok (.iadd, 1) := by decide +kernel
theorem dX4_init_177 : decode cX4_init 177 = .ok (.putfield 63, 3) := by decide +kernel
theorem dX4_init_180 : decode cX4_init 180 = .ok (.aload_n 0, 1) := by decide +kernel
theorem dX4_init_181 : decode cX4_init 181 = .ok (.aload_n 0, 1) := by decide +kernel
theorem dX4_init_182 : decode cX4_init 182 = .ok (.getfield 63, 3) := by decide +kernel
theorem dX4_init_185 : decode cX4_init 185 = .ok (.iconst 1, 1) := by decide +kernel
theorem dX4_init_186 : decode cX4_init 186 = .ok (.iadd, 1) := by decide +kernel
theorem dX4_init_187 : decode cX4_init 187 = .ok (.iload_n 2, 1) := by decide +kernel
theorem dX4_init_188 : decode cX4_init 188 = .ok (.iconst 1, 1) := by decide +kernel
theorem dX4_init_189 : decode cX4_init 189 = .ok (.isub, 1) := by decide +kernel
theorem dX4_init_190 : decode cX4_init 190 = .ok (.bipush 64, 2) := by decide +kernel
theorem dX4_init_192 : decode cX4_init 192 = .ok (.invokestatic 59, 3) := by decide +kernel
theorem dX4_init_195 : decode cX4_init 195 = .ok (.iadd, 1) := by decide +kernel
theorem dX4_init_196 : decode cX4_init 196 = .ok (.putfield 67, 3) := by decide +kernel
theorem dX4_init_199 : decode cX4_init 199 = .ok (.aload_n 0, 1) := by decide +kernel
theorem dX4_init_200 : decode cX4_init 200 = .ok (.iconst 1, 1) := by decide +kernel
theorem dX4_init_201 : decode cX4_init 201 = .ok (.iload_n 3, 1) := by decide +kernel
theorem dX4_init_202 : decode cX4_init 202 = .ok (.iconst 1, 1) := by decide +kernel
theorem dX4_init_203 : decode cX4_init 203 = .ok (.isub, 1) := by decide +kernel
theorem dX4_init_204 : decode cX4_init 204 = .ok (.bipush 64, 2) := by decide +kernel
theorem dX4_init_206 : decode cX4_init 206 = .ok (.invokestatic 59, 3) := by decide +kernel
theorem dX4_init_209 : decode cX4_init 209 = .ok (.iadd, 1) := by decide +kernel
theorem dX4_init_210 : decode cX4_init 210 = .ok (.putfield 70, 3) := by decide +kernel
theorem dX4_init_213 : decode cX4_init 213 = .ok (.iconst 0, 1) := by decide +kernel
theorem dX4_init_214 : decode cX4_init 214 = .ok (.istore 4, 2) := by decide +kernel
theorem dX4_init_216 : decode cX4_init 216 = .ok (.iload 4, 2) := by decide +kernel
theorem dX4_init_218 : decode cX4_init 218 = .ok (.aload_n 0, 1) := by decide +kernel
theorem dX4_init_219 : decode cX4_init 219 = .ok (.getfield 63, 3) := by decide +kernel
theorem dX4_init_222 : decode cX4_init 222 = .ok (.if_icmp .ge 43, 3) := by decide +kernel
theorem dX4_init_225 : decode cX4_init 225 = .ok (.aload_n 0, 1) := by decide +kernel
theorem dX4_init_226 : decode cX4_init 226 = .ok (.getfield 7, 3) := by decide +kernel
theorem dX4_init_229 : decode cX4_init 229 = .ok (.iload 4, 2) := by decide +kernel
theorem dX4_init_231 : decode cX4_init 231 = .ok (.iload 4, 2) := by decide +kernel
theorem dX4_init_233 : decode cX4_init 233 = .ok (.iastore, 1) := by decide +kernel
theorem dX4_init_234 : decode cX4_init 234 = .ok (.aload_n 0, 1) := by decide +kernel
theorem dX4_init_235 : decode cX4_init 235 = .ok (.getfield 13, 3) := by decide +kernel
theorem dX4_init_238 : decode cX4_init 238 = .ok (.iload 4, 2) := by decide +kernel
theorem dX4_init_240 : decode cX4_init 240 = .ok (.iload 4, 2) := by decide +kernel
theorem dX4_init_242 : decode cX4_init 242 = .ok (.iastore, 1) := by decide +kernel
theorem dX4_init_243 : decode cX4_init 243 = .ok (.aload_n 0, 1) := by decide +kernel
theorem dX4_init_244 : decode cX4_init 244 = .ok (.getfield 16, 3) := by decide +kernel
theorem dX4_init_247 : decode cX4_init 247 = .ok (.iload 4, 2) := by decide +kernel
theorem dX4_init_249 : decode cX4_init 249 = .ok (.iconst 1, 1) := by decide +kernel
theorem dX4_init_250 : decode cX4_init 250 = .ok (.iastore, 1) := by decide +kernel
theorem dX4_init_251 : decode cX4_init 251 = .ok (.aload_n 0, 1) := by decide +kernel
theorem dX4_init_252 : decode cX4_init 252 = .ok (.getfield 19, 3) := by decide +kernel
theorem dX4_init_255 : decode cX4_init 255 = .ok (.iload 4, 2) := by decide +kernel
theorem dX4_init_257 : decode cX4_init 257 = .ok (.iconst 1, 1) := by decide +kernel
theorem dX4_init_258 : decode cX4_init 258 = .ok (.bastore, 1) := by decide +kernel
theorem dX4_init_259 : decode cX4_init 259 = .ok (.iinc 4 1, 3) := by decide +kernel
theorem dX4_init_262 : decode cX4_init 262 = .ok (.goto (-46), 3) := by decide +kernel
theorem dX4_init_265 : decode cX4_init 265 = .ok (.aload_n 0, 1) := by decide +kernel
theorem dX4_init_266 : decode cX4_init 266 = .ok (.getfield 63, 3) := by decide +kernel
theorem dX4_init_269 : decode cX4_init 269 = .ok (.istore 4, 2) := by decide +kernel
theorem dX4_init_271 : decode cX4_init 271 = .ok (.iload 4, 2) := by decide +kernel
theorem dX4_init_273 : decode cX4_init 273 = .ok (.aload_n 0, 1) := by decide +kernel
theorem dX4_init_274 : decode cX4_init 274 = .ok (.getfield 67, 3) := by decide +kernel
theorem dX4_init_277 : decode cX4_init 277 = .ok (.if_icmp .ge 30, 3) := by decide +kernel
theorem dX4_init_280 : decode cX4_init 280 = .ok (.aload_n 0, 1) := by decide +kernel
theorem dX4_init_281 : decode cX4_init 281 = .ok (.getfield 23, 3) := by decide +kernel
theorem dX4_init_284 : decode cX4_init 284 = .ok (.aload_n 0, 1) := by decide +kernel
theorem dX4_init_285 : decode cX4_init 285 = .ok (.getfield 73, 3) := by decide +kernel
theorem dX4_init_288 : decode cX4_init 288 = .ok (.iload 4, 2) := by decide +kernel
theorem dX4_init_290 : decode cX4_init 290 = .ok (.iastore, 1) := by decide +kernel
theorem dX4_init_291 : decode cX4_init 291 = .ok (.aload_n 0, 1) := by decide +kernel
theorem dX4_init_292 : decode cX4_init 292 = .ok (.dup, 1) := by decide +kernel
theorem dX4_init_293 : decode cX4_init 293 = .ok (.getfield 73, 3) := by decide +kernel
theorem dX4_init_296 : decode cX4_init 296 = .ok (.iconst 1, 1) := by decide +kernel
theorem dX4_init_297 : decode cX4_init 297 = .ok (.iadd, 1) := by decide +kernel
theorem dX4_init_298 : decode cX4_init 298 = .ok (.putfield 73, 3) := by decide +kernel
theorem dX4_init_301 : decode cX4_init 301 = .ok (.iinc 4 1, 3) := by decide +kernel
theorem dX4_init_304 : decode cX4_init 304 = .ok (.goto (-33), 3) := by decide +kernel
theorem dX4_init_307 : decode cX4_init 307 = .ok (.return_, 1) := by decide +kernel
theorem dX4_rest_0 : decode cX4_rest 0 = .ok (.iload_n 0, 1) := by decide +kernel
theorem dX4_rest_1 : decode cX4_rest 1 = .ok (.iload_n 1, 1) := by decide +kernel
theorem dX4_rest_2 : decode cX4_rest 2 = .ok (.irem, 1) := by decide +kernel
theorem dX4_rest_3 : decode cX4_rest 3 = .ok (.istore_n 2, 1) := by decide +kernel
theorem dX4_rest_4 : decode cX4_rest 4 = .ok (.iload_n 2, 1) := by decide +kernel
theorem dX4_rest_5 : decode cX4_rest 5 = .ok (.ifCond .ge 9, 3) := by decide +kernel
theorem dX4_rest_8 : decode cX4_rest 8 = .ok (.iload_n 2, 1) := by decide +kernel
theorem dX4_rest_9 : decode cX4_rest 9 = .ok (.iload_n 1, 1) := by decide +kernel
theorem dX4_rest_10 : decode cX4_rest 10 = .ok (.iadd, 1) := by decide +kernel
theorem dX4_rest_11 : decode cX4_rest 11 = .ok (.goto 4, 3) := by decide +kernel
theorem dX4_rest_14 : decode cX4_rest 14 = .ok (.iload_n 2, 1) := by decide +kernel
theorem dX4_rest_15 : decode cX4_rest 15 = .ok (.ireturn, 1) := by decide +kernel
theorem dX4_thrown_0 : decode cX4_thrown 0 = .ok (.aload_n 0, 1) := by decide +kernel
theorem dX4_thrown_1 : decode cX4_thrown 1 = .ok (.getfield 76, 3) := by decide +kernel
theorem dX4_thrown_4 : decode cX4_thrown 4 = .ok (.ireturn, 1) := by decide +kernel
theorem dX4_throwing_0 : decode cX4_throwing 0 = .ok (.aload_n 0, 1) := by decide +kernel
theorem dX4_throwing_1 : decode cX4_throwing 1 = .ok (.iload_n 1, 1) := by decide +kernel
theorem dX4_throwing_2 : decode cX4_throwing 2 = .ok (.ifCond .eq 7, 3) := by decide +kernel
theorem dX4_throwing_5 : decode cX4_throwing 5 = .ok (.iconst 1, 1) := by decide +kernel
theorem dX4_throwing_6 : decode cX4_throwing 6 = .ok (.goto 20, 3) := by decide +kernel
theorem dX4_throwing_9 : decode cX4_throwing 9 = .ok (.iload_n 2, 1) := by decide +kernel
theorem dX4_throwing_10 : decode cX4_throwing 10 = .ok (.ifCond .eq 7, 3) := by decide +kernel
theorem dX4_throwing_13 : decode cX4_throwing 13 = .ok (.iconst 2, 1) := by decide +kernel
theorem dX4_throwing_14 : decode cX4_throwing 14 = .ok (.goto 12, 3) := by decide +kernel
theorem dX4_throwing_17 : decode cX4_throwing 17 = .ok (.iload_n 3, 1) := by decide +kernel
theorem dX4_throwing_18 : decode cX4_throwing 18 = .ok (.ifCond .eq 7, 3) := by decide +kernel
theorem dX4_throwing_21 : decode cX4_throwing 21 = .ok (.iconst 3, 1) := by decide +kernel
theorem dX4_throwing_22 : decode cX4_throwing 22 = .ok (.goto 4, 3) := by decide +kernel
theorem dX4_throwing_25 : decode cX4_throwing 25 = .ok (.iconst 0, 1) := by decide +kernel
theorem dX4_throwing_26 : decode cX4_throwing 26 = .ok (.putfield 76, 3) := by decide +kernel
theorem dX4_throwing_29 : decode cX4_throwing 29 = .ok (.aload_n 0, 1) := by decide +kernel
theorem dX4_throwing_30 : decode cX4_throwing 30 = .ok (.getfield 76, 3) := by decide +kernel
theorem dX4_throwing_33 : decode cX4_throwing 33 = .ok (.ifCond .le 7, 3) := by decide +kernel
theorem dX4_throwing_36 : decode cX4_throwing 36 = .ok (.iconst 1, 1) := by decide +kernel
theorem dX4_throwing_37 : decode cX4_throwing 37 = .ok (.goto 4, 3) := by decide +kernel
theorem dX4_throwing_40 : decode cX4_throwing 40 = .ok (.iconst 0, 1) := by decide +kernel
theorem dX4_throwing_41 : decode cX4_throwing 41 = .ok (.ireturn, 1) := by decide +kernel
theorem dX4_isRegister_0 : decode cX4_isRegister 0 = .ok (.iload_n 1, 1) := by decide +kernel
theorem dX4_isRegister_1 : decode cX4_isRegister 1 = .ok (.ifCond .lt 15, 3) := by decide +kernel
theorem dX4_isRegister_4 : decode cX4_isRegister 4 = .ok (.iload_n 1, 1) := by decide +kernel
theorem dX4_isRegister_5 : decode cX4_isRegister 5 = .ok (.aload_n 0, 1) := by decide +kernel
theorem dX4_isRegister_6 : decode cX4_isRegister 6 = .ok (.getfield 63, 3) := by decide +kernel
theorem dX4_isRegister_9 : decode cX4_isRegister 9 = .ok (.if_icmp .ge 7, 3) := by decide +kernel
theorem dX4_isRegister_12 : decode cX4_isRegister 12 = .ok (.iconst 1, 1) := by decide +kernel
theorem dX4_isRegister_13 : decode cX4_isRegister 13 = .ok (.goto 4, 3) := by decide +kernel
theorem dX4_isRegister_16 : decode cX4_isRegister 16 = .ok (.iconst 0, 1) := by decide +kernel
theorem dX4_isRegister_17 : decode cX4_isRegister 17 = .ok (.ireturn, 1) := by decide +kernel
theorem dX4_isReady_0 : decode cX4_isReady 0 = .ok (.iload_n 1, 1) := by decide +kernel
theorem dX4_isReady_1 : decode cX4_isReady 1 = .ok (.ifCond .lt 12, 3) := by decide +kernel
theorem dX4_isReady_4 : decode cX4_isReady 4 = .ok (.aload_n 0, 1) := by decide +kernel
theorem dX4_isReady_5 : decode cX4_isReady 5 = .ok (.getfield 19, 3) := by decide +kernel
theorem dX4_isReady_8 : decode cX4_isReady 8 = .ok (.iload_n 1, 1) := by decide +kernel
theorem dX4_isReady_9 : decode cX4_isReady 9 = .ok (.baload, 1) := by decide +kernel
theorem dX4_isReady_10 : decode cX4_isReady 10 = .ok (.ifCond .eq 7, 3) := by decide +kernel
theorem dX4_isReady_13 : decode cX4_isReady 13 = .ok (.iconst 1, 1) := by decide +kernel
theorem dX4_isReady_14 : decode cX4_isReady 14 = .ok (.goto 4, 3) := by decide +kernel
theorem dX4_isReady_17 : decode cX4_isReady 17 = .ok (.iconst 0, 1) := by decide +kernel
theorem dX4_isReady_18 : decode cX4_isReady 18 = .ok (.ireturn, 1) := by decide +kernel
set_option maxRecDepth 20000 in
theorem ggX4_mayGo_X4_isReady : GoodIn wsX4_mayGo wsX4_isReady := goodIn_r _ [8, 9, 10, 11, 12, 13, 14, 15, 16, 17, 18, 19, 20, 21, 22, 23, 24, 25, 26, 27, 28, 29, 30, 31, 32, 33, 34, 35, 36, 37, 38] (by decide +kernel) (by decide +kernel)
set_option maxRecDepth 20000 in
theorem gX4_mayGo_X4_isReady : GoodIn wsX4_mayGo (wsV RX4 79 RX4 yX4_isReady wsX4_isReady) := goodIn_app (goodIn_of _ (by decide +kernel)) ggX4_mayGo_X4_isReady
theorem dX4_mayGo_0 : decode cX4_mayGo 0 = .ok (.aload_n 0, 1) := by decide +kernel
theorem dX4_mayGo_1 : decode cX4_mayGo 1 = .ok (.getfield 44, 3) := by decide +kernel
theorem dX4_mayGo_4 : decode cX4_mayGo 4 = .ok (.iload_n 1, 1) := by decide +kernel
theorem dX4_mayGo_5 : decode cX4_mayGo 5 = .ok (.iaload, 1) := by decide +kernel
theorem dX4_mayGo_6 : decode cX4_mayGo 6 = .ok (.ifCond .ne 33, 3) := by decide +kernel
theorem dX4_mayGo_9 : decode cX4_mayGo 9 = .ok (.aload_n 0, 1) := by decide +kernel
theorem dX4_mayGo_10 : decode cX4_mayGo 10 = .ok (.aload_n 0, 1) := by decide +kernel
theorem dX4_mayGo_11 : decode cX4_mayGo 11 = .ok (.getfield 26, 3) := by decide +kernel
theorem dX4_mayGo_14 : decode cX4_mayGo 14 = .ok (.iload_n 1, 1) := by decide +kernel
theorem dX4_mayGo_15 : decode cX4_mayGo 15 = .ok (.iaload, 1) := by decide +kernel
theorem dX4_mayGo_16 : decode cX4_mayGo 16 = .ok (.invokevirtual 79, 3) := by decide +kernel
theorem dX4_mayGo_19 : decode cX4_mayGo 19 = .ok (.ifCond .eq 20, 3) := by decide +kernel
theorem dX4_mayGo_22 : decode cX4_mayGo 22 = .ok (.aload_n 0, 1) := by decide +kernel
theorem dX4_mayGo_23 : decode cX4_mayGo 23 = .ok (.aload_n 0, 1) := by decide +kernel
theorem dX4_mayGo_24 : decode cX4_mayGo 24 = .ok (.getfield 29, 3) := by decide +kernel
theorem dX4_mayGo_27 : decode cX4_mayGo 27 = .ok (.iload_n 1, 1) := by decide +kernel
theorem dX4_mayGo_28 : decode cX4_mayGo 28 = .ok (.iaload, 1) := by decide +kernel
theorem dX4_mayGo_29 : decode cX4_mayGo 29 = .ok (.invokevirtual 79, 3) := by decide +kernel
theorem dX4_mayGo_32 : decode cX4_mayGo 32 = .ok (.ifCond .eq 7, 3) := by decide +kernel
theorem dX4_mayGo_35 : decode cX4_mayGo 35 = .ok (.iconst 1, 1) := by decide +kernel
theorem dX4_mayGo_36 : decode cX4_mayGo 36 = .ok (.goto 4, 3) := by decide +kernel
theorem dX4_mayGo_39 : decode cX4_mayGo 39 = .ok (.iconst 0, 1) := by decide +kernel
theorem dX4_mayGo_40 : decode cX4_mayGo 40 = .ok (.ireturn, 1) := by decide +kernel
theorem dX4_placeOf_0 : decode cX4_placeOf 0 = .ok (.aload_n 0, 1) := by decide +kernel
theorem dX4_placeOf_1 : decode cX4_placeOf 1 = .ok (.getfield 83, 3) := by decide +kernel
theorem dX4_placeOf_4 : decode cX4_placeOf 4 = .ok (.iload_n 1, 1) := by decide +kernel
theorem dX4_placeOf_5 : decode cX4_placeOf 5 = .ok (.iadd, 1) := by decide +kernel
theorem dX4_placeOf_6 : decode cX4_placeOf 6 = .ok (.aload_n 0, 1) := by decide +kernel
theorem dX4_placeOf_7 : decode cX4_placeOf 7 = .ok (.getfield 70, 3) := by decide +kernel
theorem dX4_placeOf_10 : decode cX4_placeOf 10 = .ok (.irem, 1) := by decide +kernel
theorem dX4_placeOf_11 : decode cX4_placeOf 11 = .ok (.ireturn, 1) := by decide +kernel
theorem dX4_at_0 : decode cX4_at 0 = .ok (.iload_n 1, 1) := by decide +kernel
theorem dX4_at_1 : decode cX4_at 1 = .ok (.aload_n 0, 1) := by decide +kernel
theorem dX4_at_2 : decode cX4_at 2 = .ok (.getfield 83, 3) := by decide +kernel
theorem dX4_at_5 : decode cX4_at 5 = .ok (.isub, 1) := by decide +kernel
theorem dX4_at_6 : decode cX4_at 6 = .ok (.aload_n 0, 1) := by decide +kernel
theorem dX4_at_7 : decode cX4_at 7 = .ok (.getfield 70, 3) := by decide +kernel
theorem dX4_at_10 : decode cX4_at 10 = .ok (.iadd, 1) := by decide +kernel
theorem dX4_at_11 : decode cX4_at 11 = .ok (.aload_n 0, 1) := by decide +kernel
theorem dX4_at_12 : decode cX4_at 12 = .ok (.getfield 70, 3) := by decide +kernel
theorem dX4_at_15 : decode cX4_at 15 = .ok (.irem, 1) := by decide +kernel
theorem dX4_at_16 : decode cX4_at 16 = .ok (.istore_n 2, 1) := by decide +kernel
theorem dX4_at_17 : decode cX4_at 17 = .ok (.iload_n 2, 1) := by decide +kernel
theorem dX4_at_18 : decode cX4_at 18 = .ok (.aload_n 0, 1) := by decide +kernel
theorem dX4_at_19 : decode cX4_at 19 = .ok (.getfield 86, 3) := by decide +kernel
theorem dX4_at_22 : decode cX4_at 22 = .ok (.if_icmp .ge 7, 3) := by decide +kernel
theorem dX4_at_25 : decode cX4_at 25 = .ok (.iload_n 2, 1) := by decide +kernel
theorem dX4_at_26 : decode cX4_at 26 = .ok (.goto 4, 3) := by decide +kernel
theorem dX4_at_29 : decode cX4_at 29 = .ok (.iconst (-1), 1) := by decide +kernel
theorem dX4_at_30 : decode cX4_at 30 = .ok (.ireturn, 1) := by decide +kernel
theorem dX4_isPlace_0 : decode cX4_isPlace 0 = .ok (.iload_n 1, 1) := by decide +kernel
theorem dX4_isPlace_1 : decode cX4_isPlace 1 = .ok (.ifCond .lt 15, 3) := by decide +kernel
theorem dX4_isPlace_4 : decode cX4_isPlace 4 = .ok (.iload_n 1, 1) := by decide +kernel
theorem dX4_isPlace_5 : decode cX4_isPlace 5 = .ok (.aload_n 0, 1) := by decide +kernel
theorem dX4_isPlace_6 : decode cX4_isPlace 6 = .ok (.getfield 70, 3) := by decide +kernel
theorem dX4_isPlace_9 : decode cX4_isPlace 9 = .ok (.if_icmp .ge 7, 3) := by decide +kernel
theorem dX4_isPlace_12 : decode cX4_isPlace 12 = .ok (.iconst 1, 1) := by decide +kernel
theorem dX4_isPlace_13 : decode cX4_isPlace 13 = .ok (.goto 4, 3) := by decide +kernel
theorem dX4_isPlace_16 : decode cX4_isPlace 16 = .ok (.iconst 0, 1) := by decide +kernel
theorem dX4_isPlace_17 : decode cX4_isPlace 17 = .ok (.ireturn, 1) := by decide +kernel
theorem dX4_giveBack_0 : decode cX4_giveBack 0 = .ok (.aload_n 0, 1) := by decide +kernel
theorem dX4_giveBack_1 : decode cX4_giveBack 1 = .ok (.getfield 16, 3) := by decide +kernel
theorem dX4_giveBack_4 : decode cX4_giveBack 4 = .ok (.iload_n 1, 1) := by decide +kernel
theorem dX4_giveBack_5 : decode cX4_giveBack 5 = .ok (.dup2, 1) := by decide +kernel
theorem dX4_giveBack_6 : decode cX4_giveBack 6 = .ok (.iaload, 1) := by decide +kernel
theorem dX4_giveBack_7 : decode cX4_giveBack 7 = .ok (.iconst 1, 1) := by decide +kernel
theorem dX4_giveBack_8 : decode cX4_giveBack 8 = .ok (.isub, 1) := by decide +kernel
theorem dX4_giveBack_9 : decode cX4_giveBack 9 = .ok (.iastore, 1) := by decide +kernel
theorem dX4_giveBack_10 : decode cX4_giveBack 10 = .ok (.aload_n 0, 1) := by decide +kernel
theorem dX4_giveBack_11 : decode cX4_giveBack 11 = .ok (.getfield 16, 3) := by decide +kernel
theorem dX4_giveBack_14 : decode cX4_giveBack 14 = .ok (.iload_n 1, 1) := by decide +kernel
theorem dX4_giveBack_15 : decode cX4_giveBack 15 = .ok (.iaload, 1) := by decide +kernel
theorem dX4_giveBack_16 : decode cX4_giveBack 16 = .ok (.ifCond .le 4, 3) := by decide +kernel
theorem dX4_giveBack_19 : decode cX4_giveBack 19 = .ok (.return_, 1) := by decide +kernel
theorem dX4_giveBack_20 : decode cX4_giveBack 20 = .ok (.aload_n 0, 1) := by decide +kernel
theorem dX4_giveBack_21 : decode cX4_giveBack 21 = .ok (.getfield 23, 3) := by decide +kernel
theorem dX4_giveBack_24 : decode cX4_giveBack 24 = .ok (.aload_n 0, 1) := by decide +kernel
theorem dX4_giveBack_25 : decode cX4_giveBack 25 = .ok (.getfield 73, 3) := by decide +kernel
theorem dX4_giveBack_28 : decode cX4_giveBack 28 = .ok (.iload_n 1, 1) := by decide +kernel
theorem dX4_giveBack_29 : decode cX4_giveBack 29 = .ok (.iastore, 1) := by decide +kernel
theorem dX4_giveBack_30 : decode cX4_giveBack 30 = .ok (.aload_n 0, 1) := by decide +kernel
theorem dX4_giveBack_31 : decode cX4_giveBack 31 = .ok (.dup, 1) := by decide +kernel
theorem dX4_giveBack_32 : decode cX4_giveBack 32 = .ok (.getfield 73, 3) := by decide +kernel
theorem dX4_giveBack_35 : decode cX4_giveBack 35 = .ok (.iconst 1, 1) := by decide +kernel
theorem dX4_giveBack_36 : decode cX4_giveBack 36 = .ok (.iadd, 1) := by decide +kernel
theorem dX4_giveBack_37 : decode cX4_giveBack 37 = .ok (.putfield 73, 3) := by decide +kernel
theorem dX4_giveBack_40 : decode cX4_giveBack 40 = .ok (.return_, 1) := by decide +kernel
theorem dX4_takeName_0 : decode cX4_takeName 0 = .ok (.aload_n 0, 1) := by decide +kernel
theorem dX4_takeName_1 : decode cX4_takeName 1 = .ok (.getfield 23, 3) := by decide +kernel
theorem dX4_takeName_4 : decode cX4_takeName 4 = .ok (.iconst 0, 1) := by decide +kernel
theorem dX4_takeName_5 : decode cX4_takeName 5 = .ok (.iaload, 1) := by decide +kernel
theorem dX4_takeName_6 : decode cX4_takeName 6 = .ok (.istore_n 1, 1) := by decide +kernel
theorem dX4_takeName_7 : decode cX4_takeName 7 = .ok (.aload_n 0, 1) := by decide +kernel
theorem dX4_takeName_8 : decode cX4_takeName 8 = .ok (.dup, 1) := by decide +kernel
theorem dX4_takeName_9 : decode cX4_takeName 9 = .ok (.getfield 73, 3) := by decide +kernel
theorem dX4_takeName_12 : decode cX4_takeName 12 = .ok (.iconst 1, 1) := by decide +kernel
theorem dX4_takeName_13 : decode cX4_takeName 13 = .ok (.isub, 1) := by decide +kernel
theorem dX4_takeName_14 : decode cX4_takeName 14 = .ok (.putfield 73, 3) := by decide +kernel
theorem dX4_takeName_17 : decode cX4_takeName 17 = .ok (.iconst 0, 1) := by decide +kernel
theorem dX4_takeName_18 : decode cX4_takeName 18 = .ok (.istore_n 2, 1) := by decide +kernel
theorem dX4_takeName_19 : decode cX4_takeName 19 = .ok (.iload_n 2, 1) := by decide +kernel
theorem dX4_takeName_20 : decode cX4_takeName 20 = .ok (.aload_n 0, 1) := by decide +kernel
theorem dX4_takeName_21 : decode cX4_takeName 21 = .ok (.getfield 73, 3) := by decide +kernel
theorem dX4_takeName_24 : decode cX4_takeName 24 = .ok (.if_icmp .ge 23, 3) := by decide +kernel
theorem dX4_takeName_27 : decode cX4_takeName 27 = .ok (.aload_n 0, 1) := by decide +kernel
theorem dX4_takeName_28 : decode cX4_takeName 28 = .ok (.getfield 23, 3) := by decide +kernel
theorem dX4_takeName_31 : decode cX4_takeName 31 = .ok (.iload_n 2, 1) := by decide +kernel
theorem dX4_takeName_32 : decode cX4_takeName 32 = .ok (.aload_n 0, 1) := by decide +kernel
theorem dX4_takeName_33 : decode cX4_takeName 33 = .ok (.getfield 23, 3) := by decide +kernel
theorem dX4_takeName_36 : decode cX4_takeName 36 = .ok (.iload_n 2, 1) := by decide +kernel
theorem dX4_takeName_37 : decode cX4_takeName 37 = .ok (.iconst 1, 1) := by decide +kernel
theorem dX4_takeName_38 : decode cX4_takeName 38 = .ok (.iadd, 1) := by decide +kernel
theorem dX4_takeName_39 : decode cX4_takeName 39 = .ok (.iaload, 1) := by decide +kernel
theorem dX4_takeName_40 : decode cX4_takeName 40 = .ok (.iastore, 1) := by decide +kernel
theorem dX4_takeName_41 : decode cX4_takeName 41 = .ok (.iinc 2 1, 3) := by decide +kernel
theorem dX4_takeName_44 : decode cX4_takeName 44 = .ok (.goto (-25), 3) := by decide +kernel
theorem dX4_takeName_47 : decode cX4_takeName 47 = .ok (.iload_n 1, 1) := by decide +kernel
theorem dX4_takeName_48 : decode cX4_takeName 48 = .ok (.ireturn, 1) := by decide +kernel
set_option maxRecDepth 20000 in
theorem ggX4_add_X4_placeOf : GoodIn wsX4_add wsX4_placeOf := goodIn_r _ [14, 15, 16, 17, 18, 19, 20, 21, 22, 23, 24, 25, 26, 27, 28, 29, 30, 31, 32, 33, 34, 35, 36, 37, 38, 39, 40, 41, 42, 43, 44, 45] (by decide +kernel) (by decide +kernel)
set_option maxRecDepth 20000 in
theorem gX4_add_X4_placeOf : GoodIn wsX4_add (wsV RX4 89 RX4 yX4_placeOf wsX4_placeOf) := goodIn_app (goodIn_of _ (by decide +kernel)) ggX4_add_X4_placeOf
theorem dX4_add_0 : decode cX4_add 0 = .ok (.aload_n 0, 1) := by decide +kernel
theorem dX4_add_1 : decode cX4_add 1 = .ok (.getfield 26, 3) := by decide +kernel
theorem dX4_add_4 : decode cX4_add 4 = .ok (.aload_n 0, 1) := by decide +kernel
theorem dX4_add_5 : decode cX4_add 5 = .ok (.getfield 86, 3) := by decide +kernel
theorem dX4_add_8 : decode cX4_add 8 = .ok (.iload_n 1, 1) := by decide +kernel
theorem dX4_add_9 : decode cX4_add 9 = .ok (.iastore, 1) := by decide +kernel
theorem dX4_add_10 : decode cX4_add 10 = .ok (.aload_n 0, 1) := by decide +kernel
theorem dX4_add_11 : decode cX4_add 11 = .ok (.getfield 29, 3) := by decide +kernel
theorem dX4_add_14 : decode cX4_add 14 = .ok (.aload_n 0, 1) := by decide +kernel
theorem dX4_add_15 : decode cX4_add 15 = .ok (.getfield 86, 3) := by decide +kernel
theorem dX4_add_18 : decode cX4_add 18 = .ok (.iload_n 2, 1) := by decide +kernel
theorem dX4_add_19 : decode cX4_add 19 = .ok (.iastore, 1) := by decide +kernel
theorem dX4_add_20 : decode cX4_add 20 = .ok (.aload_n 0, 1) := by decide +kernel
theorem dX4_add_21 : decode cX4_add 21 = .ok (.getfield 32, 3) := by decide +kernel
theorem dX4_add_24 : decode cX4_add 24 = .ok (.aload_n 0, 1) := by decide +kernel
theorem dX4_add_25 : decode cX4_add 25 = .ok (.getfield 86, 3) := by decide +kernel
theorem dX4_add_28 : decode cX4_add 28 = .ok (.iload_n 3, 1) := by decide +kernel
theorem dX4_add_29 : decode cX4_add 29 = .ok (.iastore, 1) := by decide +kernel
theorem dX4_add_30 : decode cX4_add 30 = .ok (.aload_n 0, 1) := by decide +kernel
theorem dX4_add_31 : decode cX4_add 31 = .ok (.getfield 35, 3) := by decide +kernel
theorem dX4_add_34 : decode cX4_add 34 = .ok (.aload_n 0, 1) := by decide +kernel
theorem dX4_add_35 : decode cX4_add 35 = .ok (.getfield 86, 3) := by decide +kernel
theorem dX4_add_38 : decode cX4_add 38 = .ok (.iload 4, 2) := by decide +kernel
theorem dX4_add_40 : decode cX4_add 40 = .ok (.ifCond .ge 7, 3) := by decide +kernel
theorem dX4_add_43 : decode cX4_add 43 = .ok (.iconst (-1), 1) := by decide +kernel
theorem dX4_add_44 : decode cX4_add 44 = .ok (.goto 10, 3) := by decide +kernel
theorem dX4_add_47 : decode cX4_add 47 = .ok (.aload_n 0, 1) := by decide +kernel
theorem dX4_add_48 : decode cX4_add 48 = .ok (.getfield 7, 3) := by decide +kernel
theorem dX4_add_51 : decode cX4_add 51 = .ok (.iload 4, 2) := by decide +kernel
theorem dX4_add_53 : decode cX4_add 53 = .ok (.iaload, 1) := by decide +kernel
theorem dX4_add_54 : decode cX4_add 54 = .ok (.iastore, 1) := by decide +kernel
theorem dX4_add_55 : decode cX4_add 55 = .ok (.aload_n 0, 1) := by decide +kernel
theorem dX4_add_56 : decode cX4_add 56 = .ok (.getfield 38, 3) := by decide +kernel
theorem dX4_add_59 : decode cX4_add 59 = .ok (.aload_n 0, 1) := by decide +kernel
theorem dX4_add_60 : decode cX4_add 60 = .ok (.getfield 86, 3) := by decide +kernel
theorem dX4_add_63 : decode cX4_add 63 = .ok (.iload 4, 2) := by decide +kernel
theorem dX4_add_65 : decode cX4_add 65 = .ok (.iastore, 1) := by decide +kernel
theorem dX4_add_66 : decode cX4_add 66 = .ok (.aload_n 0, 1) := by decide +kernel
theorem dX4_add_67 : decode cX4_add 67 = .ok (.getfield 41, 3) := by decide +kernel
theorem dX4_add_70 : decode cX4_add 70 = .ok (.aload_n 0, 1) := by decide +kernel
theorem dX4_add_71 : decode cX4_add 71 = .ok (.getfield 86, 3) := by decide +kernel
theorem dX4_add_74 : decode cX4_add 74 = .ok (.iconst 0, 1) := by decide +kernel
theorem dX4_add_75 : decode cX4_add 75 = .ok (.iastore, 1) := by decide +kernel
theorem dX4_add_76 : decode cX4_add 76 = .ok (.aload_n 0, 1) := by decide +kernel
theorem dX4_add_77 : decode cX4_add 77 = .ok (.getfield 44, 3) := by decide +kernel
theorem dX4_add_80 : decode cX4_add 80 = .ok (.aload_n 0, 1) := by decide +kernel
theorem dX4_add_81 : decode cX4_add 81 = .ok (.getfield 86, 3) := by decide +kernel
theorem dX4_add_84 : decode cX4_add 84 = .ok (.iload 5, 2) := by decide +kernel
theorem dX4_add_86 : decode cX4_add 86 = .ok (.iastore, 1) := by decide +kernel
theorem dX4_add_87 : decode cX4_add 87 = .ok (.iload 4, 2) := by decide +kernel
theorem dX4_add_89 : decode cX4_add 89 = .ok (.ifCond .lt 11, 3) := by decide +kernel
theorem dX4_add_92 : decode cX4_add 92 = .ok (.aload_n 0, 1) := by decide +kernel
theorem dX4_add_93 : decode cX4_add 93 = .ok (.getfield 7, 3) := by decide +kernel
theorem dX4_add_96 : decode cX4_add 96 = .ok (.iload 4, 2) := by decide +kernel
theorem dX4_add_98 : decode cX4_add 98 = .ok (.iload_n 3, 1) := by decide +kernel
theorem dX4_add_99 : decode cX4_add 99 = .ok (.iastore, 1) := by decide +kernel
theorem dX4_add_100 : decode cX4_add 100 = .ok (.aload_n 0, 1) := by decide +kernel
theorem dX4_add_101 : decode cX4_add 101 = .ok (.dup, 1) := by decide +kernel
theorem dX4_add_102 : decode cX4_add 102 = .ok (.getfield 86, 3) := by decide +kernel
theorem dX4_add_105 : decode cX4_add 105 = .ok (.iconst 1, 1) := by decide +kernel
theorem dX4_add_106 : decode cX4_add 106 = .ok (.iadd, 1) := by decide +kernel
theorem dX4_add_107 : decode cX4_add 107 = .ok (.putfield 86, 3) := by decide +kernel
theorem dX4_add_110 : decode cX4_add 110 = .ok (.aload_n 0, 1) := by decide +kernel
theorem dX4_add_111 : decode cX4_add 111 = .ok (.aload_n 0, 1) := by decide +kernel
theorem dX4_add_112 : decode cX4_add 112 = .ok (.getfield 86, 3) := by decide +kernel
theorem dX4_add_115 : decode cX4_add 115 = .ok (.iconst 1, 1) := by decide +kernel
theorem dX4_add_116 : decode cX4_add 116 = .ok (.isub, 1) := by decide +kernel
theorem dX4_add_117 : decode cX4_add 117 = .ok (.invokevirtual 89, 3) := by decide +kernel
theorem dX4_add_120 : decode cX4_add 120 = .ok (.ireturn, 1) := by decide +kernel
set_option maxRecDepth 20000 in
theorem ggX4_dispatch_X4_isRegister : GoodIn wsX4_dispatch wsX4_isRegister := goodIn_r _ [13, 14, 41, 42, 43, 44, 45, 46, 47, 48, 49, 50, 51, 52, 53, 54, 55, 56, 57, 58, 59, 60, 61, 62, 63, 64, 65, 66, 67, 68, 69] (by decide +kernel) (by decide +kernel)
set_option maxRecDepth 20000 in
theorem gX4_dispatch_X4_isRegister : GoodIn wsX4_dispatch (wsV RX4 93 RX4 yX4_isRegister wsX4_isRegister) := goodIn_app (goodIn_of _ (by decide +kernel)) ggX4_dispatch_X4_isRegister
set_option maxRecDepth 20000 in
theorem ggX4_dispatch_X4_throwing : GoodIn wsX4_dispatch wsX4_throwing := goodIn_r _ [18, 19, 41, 42, 43, 44, 45, 46, 47, 48, 49, 50, 51, 52, 53, 54, 55, 56, 57, 58, 59, 60, 61, 62, 63, 64, 65, 66, 67, 68, 69] (by decide +kernel) (by decide +kernel)
set_option maxRecDepth 20000 in
theorem gX4_dispatch_X4_throwing : GoodIn wsX4_dispatch (wsV RX4 96 RX4 yX4_throwing wsX4_throwing) := goodIn_app (goodIn_of _ (by decide +kernel)) ggX4_dispatch_X4_throwing
set_option maxRecDepth 20000 in
theorem ggX4_dispatch_X4_takeName : GoodIn wsX4_dispatch wsX4_takeName := goodIn_r _ [23, 24, 4, 41, 42, 43, 44, 45, 46, 47, 48, 49, 50, 51, 52, 53, 54, 55, 56, 57, 58, 59, 60, 61, 62, 63, 64, 65, 66, 67, 68, 69] (by decide +kernel) (by decide +kernel)
set_option maxRecDepth 20000 in
theorem gX4_dispatch_X4_takeName : GoodIn wsX4_dispatch (wsV RX4 106 RX4 yX4_takeName wsX4_takeName) := goodIn_app (goodIn_of _ (by decide +kernel)) ggX4_dispatch_X4_takeName
set_option maxRecDepth 20000 in
theorem ggX4_dispatch_X4_add : GoodIn wsX4_dispatch wsX4_add := goodIn_r _ [28, 29, 1, 30, 31, 32, 6, 33, 34, 35, 36, 37, 38, 12, 39, 40, 2, 41, 42, 43, 44, 45, 46, 47, 48, 49, 50, 51, 52, 53, 54, 55, 56, 57, 58, 59, 60, 61, 62, 63, 64, 65, 66, 67, 68, 69] (by decide +kernel) (by decide +kernel)
set_option maxRecDepth 20000 in
theorem gX4_dispatch_X4_add : GoodIn wsX4_dispatch (wsV RX4 110 RX4 yX4_add wsX4_add) := goodIn_app (goodIn_of _ (by decide +kernel)) ggX4_dispatch_X4_add
theorem dX4_dispatch_0 : decode cX4_dispatch 0 = .ok (.iload_n 1, 1) := by decide +kernel
theorem dX4_dispatch_1 : decode cX4_dispatch 1 = .ok (.iconst (-1), 1) := by decide +kernel
theorem dX4_dispatch_2 : decode cX4_dispatch 2 = .ok (.if_icmp .eq 11, 3) := by decide +kernel
theorem dX4_dispatch_5 : decode cX4_dispatch 5 = .ok (.aload_n 0, 1) := by decide +kernel
theorem dX4_dispatch_6 : decode cX4_dispatch 6 = .ok (.iload_n 1, 1) := by decide +kernel
theorem dX4_dispatch_7 : decode cX4_dispatch 7 = .ok (.invokevirtual 93, 3) := by decide +kernel
theorem dX4_dispatch_10 : decode cX4_dispatch 10 = .ok (.ifCond .eq 29, 3) := by decide +kernel
theorem dX4_dispatch_13 : decode cX4_dispatch 13 = .ok (.iload_n 2, 1) := by decide +kernel
theorem dX4_dispatch_14 : decode cX4_dispatch 14 = .ok (.iconst (-1), 1) := by decide +kernel
theorem dX4_dispatch_15 : decode cX4_dispatch 15 = .ok (.if_icmp .eq 11, 3) := by decide +kernel
theorem dX4_dispatch_18 : decode cX4_dispatch 18 = .ok (.aload_n 0, 1) := by decide +kernel
theorem dX4_dispatch_19 : decode cX4_dispatch 19 = .ok (.iload_n 2, 1) := by decide +kernel
theorem dX4_dispatch_20 : decode cX4_dispatch 20 = .ok (.invokevirtual 93, 3) := by decide +kernel
theorem dX4_dispatch_23 : decode cX4_dispatch 23 = .ok (.ifCond .eq 16, 3) := by decide +kernel
theorem dX4_dispatch_26 : decode cX4_dispatch 26 = .ok (.iload_n 3, 1) := by decide +kernel
theorem dX4_dispatch_27 : decode cX4_dispatch 27 = .ok (.iconst (-1), 1) := by decide +kernel
theorem dX4_dispatch_28 : decode cX4_dispatch 28 = .ok (.if_icmp .eq 15, 3) := by decide +kernel
theorem dX4_dispatch_31 : decode cX4_dispatch 31 = .ok (.aload_n 0, 1) := by decide +kernel
theorem dX4_dispatch_32 : decode cX4_dispatch 32 = .ok (.iload_n 3, 1) := by decide +kernel
theorem dX4_dispatch_33 : decode cX4_dispatch 33 = .ok (.invokevirtual 93, 3) := by decide +kernel
theorem dX4_dispatch_36 : decode cX4_dispatch 36 = .ok (.ifCond .ne 7, 3) := by decide +kernel
theorem dX4_dispatch_39 : decode cX4_dispatch 39 = .ok (.iconst 1, 1) := by decide +kernel
theorem dX4_dispatch_40 : decode cX4_dispatch 40 = .ok (.goto 4, 3) := by decide +kernel
theorem dX4_dispatch_43 : decode cX4_dispatch 43 = .ok (.iconst 0, 1) := by decide +kernel
theorem dX4_dispatch_44 : decode cX4_dispatch 44 = .ok (.istore 4, 2) := by decide +kernel
theorem dX4_dispatch_46 : decode cX4_dispatch 46 = .ok (.aload_n 0, 1) := by decide +kernel
theorem dX4_dispatch_47 : decode cX4_dispatch 47 = .ok (.iload 4, 2) := by decide +kernel
theorem dX4_dispatch_49 : decode cX4_dispatch 49 = .ok (.iconst 0, 1) := by decide +kernel
theorem dX4_dispatch_50 : decode cX4_dispatch 50 = .ok (.iconst 0, 1) := by decide +kernel
theorem dX4_dispatch_51 : decode cX4_dispatch 51 = .ok (.invokevirtual 96, 3) := by decide +kernel
theorem dX4_dispatch_54 : decode cX4_dispatch 54 = .ok (.ifCond .eq 5, 3) := by decide +kernel
theorem dX4_dispatch_57 : decode cX4_dispatch 57 = .ok (.iconst 0, 1) := by decide +kernel
theorem dX4_dispatch_58 : decode cX4_dispatch 58 = .ok (.ireturn, 1) := by decide +kernel
theorem dX4_dispatch_59 : decode cX4_dispatch 59 = .ok (.aload_n 0, 1) := by decide +kernel
theorem dX4_dispatch_60 : decode cX4_dispatch 60 = .ok (.getfield 86, 3) := by decide +kernel
theorem dX4_dispatch_63 : decode cX4_dispatch 63 = .ok (.aload_n 0, 1) := by decide +kernel
theorem dX4_dispatch_64 : decode cX4_dispatch 64 = .ok (.getfield 70, 3) := by decide +kernel
theorem dX4_dispatch_67 : decode cX4_dispatch 67 = .ok (.if_icmp .ne 15, 3) := by decide +kernel
theorem dX4_dispatch_70 : decode cX4_dispatch 70 = .ok (.aload_n 0, 1) := by decide +kernel
theorem dX4_dispatch_71 : decode cX4_dispatch 71 = .ok (.dup, 1) := by decide +kernel
theorem dX4_dispatch_72 : decode cX4_dispatch 72 = .ok (.getfield 100, 3) := by decide +kernel
theorem dX4_dispatch_75 : decode cX4_dispatch 75 = .ok (.iconst 1, 1) := by decide +kernel
theorem dX4_dispatch_76 : decode cX4_dispatch 76 = .ok (.iadd, 1) := by decide +kernel
theorem dX4_dispatch_77 : decode cX4_dispatch 77 = .ok (.putfield 100, 3) := by decide +kernel
theorem dX4_dispatch_80 : decode cX4_dispatch 80 = .ok (.iconst (-1), 1) := by decide +kernel
theorem dX4_dispatch_81 : decode cX4_dispatch 81 = .ok (.ireturn, 1) := by decide +kernel
theorem dX4_dispatch_82 : decode cX4_dispatch 82 = .ok (.iload_n 3, 1) := by decide +kernel
theorem dX4_dispatch_83 : decode cX4_dispatch 83 = .ok (.ifCond .lt 22, 3) := by decide +kernel
theorem dX4_dispatch_86 : decode cX4_dispatch 86 = .ok (.aload_n 0, 1) := by decide +kernel
theorem dX4_dispatch_87 : decode cX4_dispatch 87 = .ok (.getfield 73, 3) := by decide +kernel
theorem dX4_dispatch_90 : decode cX4_dispatch 90 = .ok (.ifCond .ne 15, 3) := by decide +kernel
theorem dX4_dispatch_93 : decode cX4_dispatch 93 = .ok (.aload_n 0, 1) := by decide +kernel
theorem dX4_dispatch_94 : decode cX4_dispatch 94 = .ok (.dup, 1) := by decide +kernel
theorem dX4_dispatch_95 : decode cX4_dispatch 95 = .ok (.getfield 103, 3) := by decide +kernel
theorem dX4_dispatch_98 : decode cX4_dispatch 98 = .ok (.iconst 1, 1) := by decide +kernel
theorem dX4_dispatch_99 : decode cX4_dispatch 99 = .ok (.iadd, 1) := by decide +kernel
theorem dX4_dispatch_100 : decode cX4_dispatch 100 = .ok (.putfield 103, 3) := by decide +kernel
theorem dX4_dispatch_103 : decode cX4_dispatch 103 = .ok (.iconst (-1), 1) := by decide +kernel
theorem dX4_dispatch_104 : decode cX4_dispatch 104 = .ok (.ireturn, 1) := by decide +kernel
theorem dX4_dispatch_105 : decode cX4_dispatch 105 = .ok (.iload_n 1, 1) := by decide +kernel
theorem dX4_dispatch_106 : decode cX4_dispatch 106 = .ok (.ifCond .ge 7, 3) := by decide +kernel
theorem dX4_dispatch_109 : decode cX4_dispatch 109 = .ok (.iconst (-1), 1) := by decide +kernel
theorem dX4_dispatch_110 : decode cX4_dispatch 110 = .ok (.goto 9, 3) := by decide +kernel
theorem dX4_dispatch_113 : decode cX4_dispatch 113 = .ok (.aload_n 0, 1) := by decide +kernel
theorem dX4_dispatch_114 : decode cX4_dispatch 114 = .ok (.getfield 7, 3) := by decide +kernel
theorem dX4_dispatch_117 : decode cX4_dispatch 117 = .ok (.iload_n 1, 1) := by decide +kernel
theorem dX4_dispatch_118 : decode cX4_dispatch 118 = .ok (.iaload, 1) := by decide +kernel
theorem dX4_dispatch_119 : decode cX4_dispatch 119 = .ok (.istore 5, 2) := by decide +kernel
theorem dX4_dispatch_121 : decode cX4_dispatch 121 = .ok (.iload_n 2, 1) := by decide +kernel
theorem dX4_dispatch_122 : decode cX4_dispatch 122 = .ok (.ifCond .ge 7, 3) := by decide +kernel
theorem dX4_dispatch_125 : decode cX4_dispatch 125 = .ok (.iconst (-1), 1) := by decide +kernel
theorem dX4_dispatch_126 : decode cX4_dispatch 126 = .ok (.goto 9, 3) := by decide +kernel
theorem dX4_dispatch_129 : decode cX4_dispatch 129 = .ok (.aload_n 0, 1) := by decide +kernel
theorem dX4_dispatch_130 : decode cX4_dispatch 130 = .ok (.getfield 7, 3) := by decide +kernel
theorem dX4_dispatch_133 : decode cX4_dispatch 133 = .ok (.iload_n 2, 1) := by decide +kernel
theorem dX4_dispatch_134 : decode cX4_dispatch 134 = .ok (.iaload, 1) := by decide +kernel
theorem dX4_dispatch_135 : decode cX4_dispatch 135 = .ok (.istore 6, 2) := by decide +kernel
theorem dX4_dispatch_137 : decode cX4_dispatch 137 = .ok (.iconst (-1), 1) := by decide +kernel
theorem dX4_dispatch_138 : decode cX4_dispatch 138 = .ok (.istore 7, 2) := by decide +kernel
theorem dX4_dispatch_140 : decode cX4_dispatch 140 = .ok (.iload_n 3, 1) := by decide +kernel
theorem dX4_dispatch_141 : decode cX4_dispatch 141 = .ok (.ifCond .lt 25, 3) := by decide +kernel
theorem dX4_dispatch_144 : decode cX4_dispatch 144 = .ok (.aload_n 0, 1) := by decide +kernel
theorem dX4_dispatch_145 : decode cX4_dispatch 145 = .ok (.invokevirtual 106, 3) := by decide +kernel
theorem dX4_dispatch_148 : decode cX4_dispatch 148 = .ok (.istore 7, 2) := by decide +kernel
theorem dX4_dispatch_150 : decode cX4_dispatch 150 = .ok (.aload_n 0, 1) := by decide +kernel
theorem dX4_dispatch_151 : decode cX4_dispatch 151 = .ok (.getfield 16, 3) := by decide +kernel
theorem dX4_dispatch_154 : decode cX4_dispatch 154 = .ok (.iload 7, 2) := by decide +kernel
theorem dX4_dispatch_156 : decode cX4_dispatch 156 = .ok (.iconst 1, 1) := by decide +kernel
theorem dX4_dispatch_157 : decode cX4_dispatch 157 = .ok (.iastore, 1) := by decide +kernel
theorem dX4_dispatch_158 : decode cX4_dispatch 158 = .ok (.aload_n 0, 1) := by decide +kernel
theorem dX4_dispatch_159 : decode cX4_dispatch 159 = .ok (.getfield 19, 3) := by decide +kernel
theorem dX4_dispatch_162 : decode cX4_dispatch 162 = .ok (.iload 7, 2) := by decide +kernel
theorem dX4_dispatch_164 : decode cX4_dispatch 164 = .ok (.iconst 0, 1) := by decide +kernel
theorem dX4_dispatch_165 : decode cX4_dispatch 165 = .ok (.bastore, 1) := by decide +kernel
theorem dX4_dispatch_166 : decode cX4_dispatch 166 = .ok (.aload_n 0, 1) := by decide +kernel
theorem dX4_dispatch_167 : decode cX4_dispatch 167 = .ok (.iload 5, 2) := by decide +kernel
theorem dX4_dispatch_169 : decode cX4_dispatch 169 = .ok (.iload 6, 2) := by decide +kernel
theorem dX4_dispatch_171 : decode cX4_dispatch 171 = .ok (.iload 7, 2) := by decide +kernel
theorem dX4_dispatch_173 : decode cX4_dispatch 173 = .ok (.iload_n 3, 1) := by decide +kernel
theorem dX4_dispatch_174 : decode cX4_dispatch 174 = .ok (.iconst 0, 1) := by decide +kernel
theorem dX4_dispatch_175 : decode cX4_dispatch 175 = .ok (.invokevirtual 110, 3) := by decide +kernel
theorem dX4_dispatch_178 : decode cX4_dispatch 178 = .ok (.ireturn, 1) := by decide +kernel
set_option maxRecDepth 20000 in
theorem ggX4_move_X4_isRegister : GoodIn wsX4_move wsX4_isRegister := goodIn_r _ [10, 11, 33, 34, 35, 36, 37, 38, 39, 40, 41, 42, 43, 44, 45, 46, 47, 48, 49, 50, 51, 52, 53, 54, 55, 56, 57, 58, 59, 60, 61] (by decide +kernel) (by decide +kernel)
set_option maxRecDepth 20000 in
theorem gX4_move_X4_isRegister : GoodIn wsX4_move (wsV RX4 93 RX4 yX4_isRegister wsX4_isRegister) := goodIn_app (goodIn_of _ (by decide +kernel)) ggX4_move_X4_isRegister
set_option maxRecDepth 20000 in
theorem ggX4_move_X4_throwing : GoodIn wsX4_move wsX4_throwing := goodIn_r _ [15, 16, 33, 34, 35, 36, 37, 38, 39, 40, 41, 42, 43, 44, 45, 46, 47, 48, 49, 50, 51, 52, 53, 54, 55, 56, 57, 58, 59, 60, 61] (by decide +kernel) (by decide +kernel)
set_option maxRecDepth 20000 in
theorem gX4_move_X4_throwing : GoodIn wsX4_move (wsV RX4 96 RX4 yX4_throwing wsX4_throwing) := goodIn_app (goodIn_of _ (by decide +kernel)) ggX4_move_X4_throwing
set_option maxRecDepth 20000 in
theorem ggX4_move_X4_add : GoodIn wsX4_move wsX4_add := goodIn_r _ [20, 21, 1, 22, 23, 24, 5, 25, 26, 27, 28, 29, 30, 9, 31, 32, 2, 33, 34, 35, 36, 37, 38, 39, 40, 41, 42, 43, 44, 45, 46, 47, 48, 49, 50, 51, 52, 53, 54, 55, 56, 57, 58, 59, 60, 61] (by decide +kernel) (by decide +kernel)
set_option maxRecDepth 20000 in
theorem gX4_move_X4_add : GoodIn wsX4_move (wsV RX4 110 RX4 yX4_add wsX4_add) := goodIn_app (goodIn_of _ (by decide +kernel)) ggX4_move_X4_add
theorem dX4_move_0 : decode cX4_move 0 = .ok (.aload_n 0, 1) := by decide +kernel
theorem dX4_move_1 : decode cX4_move 1 = .ok (.aload_n 0, 1) := by decide +kernel
theorem dX4_move_2 : decode cX4_move 2 = .ok (.iload_n 1, 1) := by decide +kernel
theorem dX4_move_3 : decode cX4_move 3 = .ok (.invokevirtual 93, 3) := by decide +kernel
theorem dX4_move_6 : decode cX4_move 6 = .ok (.ifCond .eq 11, 3) := by decide +kernel
theorem dX4_move_9 : decode cX4_move 9 = .ok (.aload_n 0, 1) := by decide +kernel
theorem dX4_move_10 : decode cX4_move 10 = .ok (.iload_n 2, 1) := by decide +kernel
theorem dX4_move_11 : decode cX4_move 11 = .ok (.invokevirtual 93, 3) := by decide +kernel
theorem dX4_move_14 : decode cX4_move 14 = .ok (.ifCond .ne 7, 3) := by decide +kernel
theorem dX4_move_17 : decode cX4_move 17 = .ok (.iconst 1, 1) := by decide +kernel
theorem dX4_move_18 : decode cX4_move 18 = .ok (.goto 4, 3) := by decide +kernel
theorem dX4_move_21 : decode cX4_move 21 = .ok (.iconst 0, 1) := by decide +kernel
theorem dX4_move_22 : decode cX4_move 22 = .ok (.iconst 0, 1) := by decide +kernel
theorem dX4_move_23 : decode cX4_move 23 = .ok (.iconst 0, 1) := by decide +kernel
theorem dX4_move_24 : decode cX4_move 24 = .ok (.invokevirtual 96, 3) := by decide +kernel
theorem dX4_move_27 : decode cX4_move 27 = .ok (.ifCond .eq 5, 3) := by decide +kernel
theorem dX4_move_30 : decode cX4_move 30 = .ok (.iconst 0, 1) := by decide +kernel
theorem dX4_move_31 : decode cX4_move 31 = .ok (.ireturn, 1) := by decide +kernel
theorem dX4_move_32 : decode cX4_move 32 = .ok (.aload_n 0, 1) := by decide +kernel
theorem dX4_move_33 : decode cX4_move 33 = .ok (.getfield 86, 3) := by decide +kernel
theorem dX4_move_36 : decode cX4_move 36 = .ok (.aload_n 0, 1) := by decide +kernel
theorem dX4_move_37 : decode cX4_move 37 = .ok (.getfield 70, 3) := by decide +kernel
theorem dX4_move_40 : decode cX4_move 40 = .ok (.if_icmp .ne 15, 3) := by decide +kernel
theorem dX4_move_43 : decode cX4_move 43 = .ok (.aload_n 0, 1) := by decide +kernel
theorem dX4_move_44 : decode cX4_move 44 = .ok (.dup, 1) := by decide +kernel
theorem dX4_move_45 : decode cX4_move 45 = .ok (.getfield 100, 3) := by decide +kernel
theorem dX4_move_48 : decode cX4_move 48 = .ok (.iconst 1, 1) := by decide +kernel
theorem dX4_move_49 : decode cX4_move 49 = .ok (.iadd, 1) := by decide +kernel
theorem dX4_move_50 : decode cX4_move 50 = .ok (.putfield 100, 3) := by decide +kernel
theorem dX4_move_53 : decode cX4_move 53 = .ok (.iconst (-1), 1) := by decide +kernel
theorem dX4_move_54 : decode cX4_move 54 = .ok (.ireturn, 1) := by decide +kernel
theorem dX4_move_55 : decode cX4_move 55 = .ok (.aload_n 0, 1) := by decide +kernel
theorem dX4_move_56 : decode cX4_move 56 = .ok (.getfield 16, 3) := by decide +kernel
theorem dX4_move_59 : decode cX4_move 59 = .ok (.aload_n 0, 1) := by decide +kernel
theorem dX4_move_60 : decode cX4_move 60 = .ok (.getfield 7, 3) := by decide +kernel
theorem dX4_move_63 : decode cX4_move 63 = .ok (.iload_n 1, 1) := by decide +kernel
theorem dX4_move_64 : decode cX4_move 64 = .ok (.iaload, 1) := by decide +kernel
theorem dX4_move_65 : decode cX4_move 65 = .ok (.dup2, 1) := by decide +kernel
theorem dX4_move_66 : decode cX4_move 66 = .ok (.iaload, 1) := by decide +kernel
theorem dX4_move_67 : decode cX4_move 67 = .ok (.iconst 1, 1) := by decide +kernel
theorem dX4_move_68 : decode cX4_move 68 = .ok (.iadd, 1) := by decide +kernel
theorem dX4_move_69 : decode cX4_move 69 = .ok (.iastore, 1) := by decide +kernel
theorem dX4_move_70 : decode cX4_move 70 = .ok (.aload_n 0, 1) := by decide +kernel
theorem dX4_move_71 : decode cX4_move 71 = .ok (.aload_n 0, 1) := by decide +kernel
theorem dX4_move_72 : decode cX4_move 72 = .ok (.getfield 7, 3) := by decide +kernel
theorem dX4_move_75 : decode cX4_move 75 = .ok (.iload_n 1, 1) := by decide +kernel
theorem dX4_move_76 : decode cX4_move 76 = .ok (.iaload, 1) := by decide +kernel
theorem dX4_move_77 : decode cX4_move 77 = .ok (.iconst (-1), 1) := by decide +kernel
theorem dX4_move_78 : decode cX4_move 78 = .ok (.aload_n 0, 1) := by decide +kernel
theorem dX4_move_79 : decode cX4_move 79 = .ok (.getfield 7, 3) := by decide +kernel
theorem dX4_move_82 : decode cX4_move 82 = .ok (.iload_n 1, 1) := by decide +kernel
theorem dX4_move_83 : decode cX4_move 83 = .ok (.iaload, 1) := by decide +kernel
theorem dX4_move_84 : decode cX4_move 84 = .ok (.iload_n 2, 1) := by decide +kernel
theorem dX4_move_85 : decode cX4_move 85 = .ok (.iconst 2, 1) := by decide +kernel
theorem dX4_move_86 : decode cX4_move 86 = .ok (.invokevirtual 110, 3) := by decide +kernel
theorem dX4_move_89 : decode cX4_move 89 = .ok (.ireturn, 1) := by decide +kernel
set_option maxRecDepth 20000 in
theorem ggX4_port_X4_isPlace : GoodIn wsX4_port wsX4_isPlace := goodIn_r _ [7, 8, 20, 21, 22, 23, 24, 25, 26, 27, 28, 29, 30, 31, 32, 33, 34, 35, 36, 37, 38, 39, 40, 41, 42, 43, 44, 45, 46, 47, 48] (by decide +kernel) (by decide +kernel)
set_option maxRecDepth 20000 in
theorem gX4_port_X4_isPlace : GoodIn wsX4_port (wsV RX4 114 RX4 yX4_isPlace wsX4_isPlace) := goodIn_app (goodIn_of _ (by decide +kernel)) ggX4_port_X4_isPlace
set_option maxRecDepth 20000 in
theorem ggX4_port_X4_at : GoodIn wsX4_port wsX4_at := goodIn_r _ [12, 13, 8, 14, 20, 21, 22, 23, 24, 25, 26, 27, 28, 29, 30, 31, 32, 33, 34, 35, 36, 37, 38, 39, 40, 41, 42, 43, 44, 45, 46, 47, 48] (by decide +kernel) (by decide +kernel)
set_option maxRecDepth 20000 in
theorem gX4_port_X4_at : GoodIn wsX4_port (wsV RX4 117 RX4 yX4_at wsX4_at) := goodIn_app (goodIn_of _ (by decide +kernel)) ggX4_port_X4_at
set_option maxRecDepth 20000 in
theorem ggX4_port_X4_throwing : GoodIn wsX4_port wsX4_throwing := goodIn_r _ [18, 19, 20, 21, 22, 23, 24, 25, 26, 27, 28, 29, 30, 31, 32, 33, 34, 35, 36, 37, 38, 39, 40, 41, 42, 43, 44, 45, 46, 47, 48] (by decide +kernel) (by decide +kernel)
set_option maxRecDepth 20000 in
theorem gX4_port_X4_throwing : GoodIn wsX4_port (wsV RX4 96 RX4 yX4_throwing wsX4_throwing) := goodIn_app (goodIn_of _ (by decide +kernel)) ggX4_port_X4_throwing
theorem dX4_port_0 : decode cX4_port 0 = .ok (.aload_n 0, 1) := by decide +kernel
theorem dX4_port_1 : decode cX4_port 1 = .ok (.iload_n 1, 1) := by decide +kernel
theorem dX4_port_2 : decode cX4_port 2 = .ok (.invokevirtual 114, 3) := by decide +kernel
theorem dX4_port_5 : decode cX4_port 5 = .ok (.ifCond .eq 11, 3) := by decide +kernel
theorem dX4_port_8 : decode cX4_port 8 = .ok (.aload_n 0, 1) := by decide +kernel
theorem dX4_port_9 : decode cX4_port 9 = .ok (.iload_n 1, 1) := by decide +kernel
theorem dX4_port_10 : decode cX4_port 10 = .ok (.invokevirtual 117, 3) := by decide +kernel
theorem dX4_port_13 : decode cX4_port 13 = .ok (.goto 4, 3) := by decide +kernel
theorem dX4_port_16 : decode cX4_port 16 = .ok (.iconst (-1), 1) := by decide +kernel
theorem dX4_port_17 : decode cX4_port 17 = .ok (.istore_n 3, 1) := by decide +kernel
theorem dX4_port_18 : decode cX4_port 18 = .ok (.aload_n 0, 1) := by decide +kernel
theorem dX4_port_19 : decode cX4_port 19 = .ok (.aload_n 0, 1) := by decide +kernel
theorem dX4_port_20 : decode cX4_port 20 = .ok (.iload_n 1, 1) := by decide +kernel
theorem dX4_port_21 : decode cX4_port 21 = .ok (.invokevirtual 114, 3) := by decide +kernel
theorem dX4_port_24 : decode cX4_port 24 = .ok (.ifCond .ne 7, 3) := by decide +kernel
theorem dX4_port_27 : decode cX4_port 27 = .ok (.iconst 1, 1) := by decide +kernel
theorem dX4_port_28 : decode cX4_port 28 = .ok (.goto 4, 3) := by decide +kernel
theorem dX4_port_31 : decode cX4_port 31 = .ok (.iconst 0, 1) := by decide +kernel
theorem dX4_port_32 : decode cX4_port 32 = .ok (.iload_n 3, 1) := by decide +kernel
theorem dX4_port_33 : decode cX4_port 33 = .ok (.ifCond .lt 20, 3) := by decide +kernel
theorem dX4_port_36 : decode cX4_port 36 = .ok (.aload_n 0, 1) := by decide +kernel
theorem dX4_port_37 : decode cX4_port 37 = .ok (.getfield 44, 3) := by decide +kernel
theorem dX4_port_40 : decode cX4_port 40 = .ok (.iload_n 3, 1) := by decide +kernel
theorem dX4_port_41 : decode cX4_port 41 = .ok (.ifCond .ge 7, 3) := by decide +kernel
theorem dX4_port_44 : decode cX4_port 44 = .ok (.iconst 0, 1) := by decide +kernel
theorem dX4_port_45 : decode cX4_port 45 = .ok (.goto 4, 3) := by decide +kernel
theorem dX4_port_48 : decode cX4_port 48 = .ok (.iload_n 3, 1) := by decide +kernel
theorem dX4_port_49 : decode cX4_port 49 = .ok (.iaload, 1) := by decide +kernel
theorem dX4_port_50 : decode cX4_port 50 = .ok (.ifCond .eq 7, 3) := by decide +kernel
theorem dX4_port_53 : decode cX4_port 53 = .ok (.iconst 1, 1) := by decide +kernel
theorem dX4_port_54 : decode cX4_port 54 = .ok (.goto 4, 3) := by decide +kernel
theorem dX4_port_57 : decode cX4_port 57 = .ok (.iconst 0, 1) := by decide +kernel
theorem dX4_port_58 : decode cX4_port 58 = .ok (.iload_n 2, 1) := by decide +kernel
theorem dX4_port_59 : decode cX4_port 59 = .ok (.ifCond .lt 9, 3) := by decide +kernel
theorem dX4_port_62 : decode cX4_port 62 = .ok (.iload_n 2, 1) := by decide +kernel
theorem dX4_port_63 : decode cX4_port 63 = .ok (.bipush 7, 2) := by decide +kernel
theorem dX4_port_65 : decode cX4_port 65 = .ok (.if_icmp .le 7, 3) := by decide +kernel
theorem dX4_port_68 : decode cX4_port 68 = .ok (.iconst 1, 1) := by decide +kernel
theorem dX4_port_69 : decode cX4_port 69 = .ok (.goto 4, 3) := by decide +kernel
theorem dX4_port_72 : decode cX4_port 72 = .ok (.iconst 0, 1) := by decide +kernel
theorem dX4_port_73 : decode cX4_port 73 = .ok (.invokevirtual 96, 3) := by decide +kernel
theorem dX4_port_76 : decode cX4_port 76 = .ok (.ifCond .eq 5, 3) := by decide +kernel
theorem dX4_port_79 : decode cX4_port 79 = .ok (.iconst 0, 1) := by decide +kernel
theorem dX4_port_80 : decode cX4_port 80 = .ok (.ireturn, 1) := by decide +kernel
theorem dX4_port_81 : decode cX4_port 81 = .ok (.aload_n 0, 1) := by decide +kernel
theorem dX4_port_82 : decode cX4_port 82 = .ok (.getfield 41, 3) := by decide +kernel
theorem dX4_port_85 : decode cX4_port 85 = .ok (.iload_n 3, 1) := by decide +kernel
theorem dX4_port_86 : decode cX4_port 86 = .ok (.iaload, 1) := by decide +kernel
theorem dX4_port_87 : decode cX4_port 87 = .ok (.istore 4, 2) := by decide +kernel
theorem dX4_port_89 : decode cX4_port 89 = .ok (.aload_n 0, 1) := by decide +kernel
theorem dX4_port_90 : decode cX4_port 90 = .ok (.getfield 41, 3) := by decide +kernel
theorem dX4_port_93 : decode cX4_port 93 = .ok (.iload_n 3, 1) := by decide +kernel
theorem dX4_port_94 : decode cX4_port 94 = .ok (.iload_n 2, 1) := by decide +kernel
theorem dX4_port_95 : decode cX4_port 95 = .ok (.iastore, 1) := by decide +kernel
theorem dX4_port_96 : decode cX4_port 96 = .ok (.iload 4, 2) := by decide +kernel
theorem dX4_port_98 : decode cX4_port 98 = .ok (.ireturn, 1) := by decide +kernel
set_option maxRecDepth 20000 in
theorem ggX4_select_X4_throwing : GoodIn wsX4_select wsX4_throwing := goodIn_r _ [9, 10, 28, 29, 30, 31, 32, 33, 34, 35, 36, 37, 38, 39, 40, 41, 42, 43, 44, 45, 46, 47, 48, 49, 50, 51, 52, 53, 54, 55, 56] (by decide +kernel) (by decide +kernel)
set_option maxRecDepth 20000 in
theorem gX4_select_X4_throwing : GoodIn wsX4_select (wsV RX4 96 RX4 yX4_throwing wsX4_throwing) := goodIn_app (goodIn_of _ (by decide +kernel)) ggX4_select_X4_throwing
set_option maxRecDepth 20000 in
theorem ggX4_select_X4_mayGo : GoodIn wsX4_select wsX4_mayGo := goodIn_r _ [14, 4, 15, 16, 17, 18, 19, 8, 20, 21, 28, 29, 30, 31, 32, 33, 34, 35, 36, 37, 38, 39, 40, 41, 42, 43, 44, 45, 46, 47, 48, 49, 50, 51, 52, 53, 54, 55, 56] (by decide +kernel) (by decide +kernel)
set_option maxRecDepth 20000 in
theorem gX4_select_X4_mayGo : GoodIn wsX4_select (wsV RX4 120 RX4 yX4_mayGo wsX4_mayGo) := goodIn_app (goodIn_of _ (by decide +kernel)) ggX4_select_X4_mayGo
set_option maxRecDepth 20000 in
theorem ggX4_select_X4_placeOf : GoodIn wsX4_select wsX4_placeOf := goodIn_r _ [25, 26, 27, 28, 29, 30, 31, 32, 33, 34, 35, 36, 37, 38, 39, 40, 41, 42, 43, 44, 45, 46, 47, 48, 49, 50, 51, 52, 53, 54, 55, 56] (by decide +kernel) (by decide +kernel)
set_option maxRecDepth 20000 in
theorem gX4_select_X4_placeOf : GoodIn wsX4_select (wsV RX4 89 RX4 yX4_placeOf wsX4_placeOf) := goodIn_app (goodIn_of _ (by decide +kernel)) ggX4_select_X4_placeOf
theorem dX4_select_0 : decode cX4_select 0 = .ok (.aload_n 0, 1) := by decide +kernel
theorem dX4_select_1 : decode cX4_select 1 = .ok (.iload_n 1, 1) := by decide +kernel
theorem dX4_select_2 : decode cX4_select 2 = .ok (.iconst 1, 1) := by decide +kernel
theorem dX4_select_3 : decode cX4_select 3 = .ok (.if_icmp .lt 9, 3) := by decide +kernel
theorem dX4_select_6 : decode cX4_select 6 = .ok (.iload_n 1, 1) := by decide +kernel
theorem dX4_select_7 : decode cX4_select 7 = .ok (.bipush 8, 2) := by decide +kernel
theorem dX4_select_9 : decode cX4_select 9 = .ok (.if_icmp .le 7, 3) := by decide +kernel
theorem dX4_select_12 : decode cX4_select 12 = .ok (.iconst 1, 1) := by decide +kernel
theorem dX4_select_13 : decode cX4_select 13 = .ok (.goto 4, 3) := by decide +kernel
theorem dX4_select_16 : decode cX4_select 16 = .ok (.iconst 0, 1) := by decide +kernel
theorem dX4_select_17 : decode cX4_select 17 = .ok (.iconst 0, 1) := by decide +kernel
theorem dX4_select_18 : decode cX4_select 18 = .ok (.iconst 0, 1) := by decide +kernel
theorem dX4_select_19 : decode cX4_select 19 = .ok (.invokevirtual 96, 3) := by decide +kernel
theorem dX4_select_22 : decode cX4_select 22 = .ok (.ifCond .eq 5, 3) := by decide +kernel
theorem dX4_select_25 : decode cX4_select 25 = .ok (.iconst 0, 1) := by decide +kernel
theorem dX4_select_26 : decode cX4_select 26 = .ok (.ireturn, 1) := by decide +kernel
theorem dX4_select_27 : decode cX4_select 27 = .ok (.iconst 0, 1) := by decide +kernel
theorem dX4_select_28 : decode cX4_select 28 = .ok (.istore_n 2, 1) := by decide +kernel
theorem dX4_select_29 : decode cX4_select 29 = .ok (.iconst 0, 1) := by decide +kernel
theorem dX4_select_30 : decode cX4_select 30 = .ok (.istore_n 3, 1) := by decide +kernel
theorem dX4_select_31 : decode cX4_select 31 = .ok (.iload_n 3, 1) := by decide +kernel
theorem dX4_select_32 : decode cX4_select 32 = .ok (.bipush 8, 2) := by decide +kernel
theorem dX4_select_34 : decode cX4_select 34 = .ok (.if_icmp .ge 94, 3) := by decide +kernel
theorem dX4_select_37 : decode cX4_select 37 = .ok (.aload_n 0, 1) := by decide +kernel
theorem dX4_select_38 : decode cX4_select 38 = .ok (.getfield 56, 3) := by decide +kernel
theorem dX4_select_41 : decode cX4_select 41 = .ok (.iload_n 3, 1) := by decide +kernel
theorem dX4_select_42 : decode cX4_select 42 = .ok (.iconst (-1), 1) := by decide +kernel
theorem dX4_select_43 : decode cX4_select 43 = .ok (.iastore, 1) := by decide +kernel
theorem dX4_select_44 : decode cX4_select 44 = .ok (.iconst 0, 1) := by decide +kernel
theorem dX4_select_45 : decode cX4_select 45 = .ok (.istore 4, 2) := by decide +kernel
theorem dX4_select_47 : decode cX4_select 47 = .ok (.iload 4, 2) := by decide +kernel
theorem dX4_select_49 : decode cX4_select 49 = .ok (.aload_n 0, 1) := by decide +kernel
theorem dX4_select_50 : decode cX4_select 50 = .ok (.getfield 86, 3) := by decide +kernel
theorem dX4_select_53 : decode cX4_select 53 = .ok (.if_icmp .ge 69, 3) := by decide +kernel
theorem dX4_select_56 : decode cX4_select 56 = .ok (.iload_n 3, 1) := by decide +kernel
theorem dX4_select_57 : decode cX4_select 57 = .ok (.iload_n 1, 1) := by decide +kernel
theorem dX4_select_58 : decode cX4_select 58 = .ok (.if_icmp .ge 64, 3) := by decide +kernel
theorem dX4_select_61 : decode cX4_select 61 = .ok (.aload_n 0, 1) := by decide +kernel
theorem dX4_select_62 : decode cX4_select 62 = .ok (.getfield 56, 3) := by decide +kernel
theorem dX4_select_65 : decode cX4_select 65 = .ok (.iload_n 3, 1) := by decide +kernel
theorem dX4_select_66 : decode cX4_select 66 = .ok (.iaload, 1) := by decide +kernel
theorem dX4_select_67 : decode cX4_select 67 = .ok (.ifCond .ge 55, 3) := by decide +kernel
theorem dX4_select_70 : decode cX4_select 70 = .ok (.aload_n 0, 1) := by decide +kernel
theorem dX4_select_71 : decode cX4_select 71 = .ok (.getfield 41, 3) := by decide +kernel
theorem dX4_select_74 : decode cX4_select 74 = .ok (.iload 4, 2) := by decide +kernel
theorem dX4_select_76 : decode cX4_select 76 = .ok (.iaload, 1) := by decide +kernel
theorem dX4_select_77 : decode cX4_select 77 = .ok (.iload_n 3, 1) := by decide +kernel
theorem dX4_select_78 : decode cX4_select 78 = .ok (.if_icmp .ne 38, 3) := by decide +kernel
theorem dX4_select_81 : decode cX4_select 81 = .ok (.aload_n 0, 1) := by decide +kernel
theorem dX4_select_82 : decode cX4_select 82 = .ok (.iload 4, 2) := by decide +kernel
theorem dX4_select_84 : decode cX4_select 84 = .ok (.invokevirtual 120, 3) := by decide +kernel
theorem dX4_select_87 : decode cX4_select 87 = .ok (.ifCond .ne 6, 3) := by decide +kernel
theorem dX4_select_90 : decode cX4_select 90 = .ok (.goto 26, 3) := by decide +kernel
theorem dX4_select_93 : decode cX4_select 93 = .ok (.aload_n 0, 1) := by decide +kernel
theorem dX4_select_94 : decode cX4_select 94 = .ok (.getfield 44, 3) := by decide +kernel
theorem dX4_select_97 : decode cX4_select 97 = .ok (.iload 4, 2) := by decide +kernel
theorem dX4_select_99 : decode cX4_select 99 = .ok (.iconst 1, 1) := by decide +kernel
theorem dX4_select_100 : decode cX4_select 100 = .ok (.iastore, 1) := by decide +kernel
theorem dX4_select_101 : decode cX4_select 101 = .ok (.aload_n 0, 1) := by decide +kernel
theorem dX4_select_102 : decode cX4_select 102 = .ok (.getfield 56, 3) := by decide +kernel
theorem dX4_select_105 : decode cX4_select 105 = .ok (.iload_n 3, 1) := by decide +kernel
theorem dX4_select_106 : decode cX4_select 106 = .ok (.aload_n 0, 1) := by decide +kernel
theorem dX4_select_107 : decode cX4_select 107 = .ok (.iload 4, 2) := by decide +kernel
theorem dX4_select_109 : decode cX4_select 109 = .ok (.invokevirtual 89, 3) := by decide +kernel
theorem dX4_select_112 : decode cX4_select 112 = .ok (.iastore, 1) := by decide +kernel
theorem dX4_select_113 : decode cX4_select 113 = .ok (.iinc 2 1, 3) := by decide +kernel
theorem dX4_select_116 : decode cX4_select 116 = .ok (.iinc 4 1, 3) := by decide +kernel
theorem dX4_select_119 : decode cX4_select 119 = .ok (.goto (-72), 3) := by decide +kernel
theorem dX4_select_122 : decode cX4_select 122 = .ok (.iinc 3 1, 3) := by decide +kernel
theorem dX4_select_125 : decode cX4_select 125 = .ok (.goto (-94), 3) := by decide +kernel
theorem dX4_select_128 : decode cX4_select 128 = .ok (.iload_n 2, 1) := by decide +kernel
theorem dX4_select_129 : decode cX4_select 129 = .ok (.ireturn, 1) := by decide +kernel
set_option maxRecDepth 20000 in
theorem ggX4_selected_X4_throwing : GoodIn wsX4_selected wsX4_throwing := goodIn_r _ [6, 7, 8, 9, 10, 11, 12, 13, 14, 15, 16, 17, 18, 19, 20, 21, 22, 23, 24, 25, 26, 27, 28, 29, 30, 31, 32, 33, 34, 35, 36] (by decide +kernel) (by decide +kernel)
set_option maxRecDepth 20000 in
theorem gX4_selected_X4_throwing : GoodIn wsX4_selected (wsV RX4 96 RX4 yX4_throwing wsX4_throwing) := goodIn_app (goodIn_of _ (by decide +kernel)) ggX4_selected_X4_throwing
theorem dX4_selected_0 : decode cX4_selected 0 = .ok (.aload_n 0, 1) := by decide +kernel
theorem dX4_selected_1 : decode cX4_selected 1 = .ok (.iload_n 1, 1) := by decide +kernel
theorem dX4_selected_2 : decode cX4_selected 2 = .ok (.ifCond .lt 9, 3) := by decide +kernel
theorem dX4_selected_5 : decode cX4_selected 5 = .ok (.iload_n 1, 1) := by decide +kernel
theorem dX4_selected_6 : decode cX4_selected 6 = .ok (.bipush 7, 2) := by decide +kernel
theorem dX4_selected_8 : decode cX4_selected 8 = .ok (.if_icmp .le 7, 3) := by decide +kernel
theorem dX4_selected_11 : decode cX4_selected 11 = .ok (.iconst 1, 1) := by decide +kernel
theorem dX4_selected_12 : decode cX4_selected 12 = .ok (.goto 4, 3) := by decide +kernel
theorem dX4_selected_15 : decode cX4_selected 15 = .ok (.iconst 0, 1) := by decide +kernel
theorem dX4_selected_16 : decode cX4_selected 16 = .ok (.iconst 0, 1) := by decide +kernel
theorem dX4_selected_17 : decode cX4_selected 17 = .ok (.iconst 0, 1) := by decide +kernel
theorem dX4_selected_18 : decode cX4_selected 18 = .ok (.invokevirtual 96, 3) := by decide +kernel
theorem dX4_selected_21 : decode cX4_selected 21 = .ok (.ifCond .eq 5, 3) := by decide +kernel
theorem dX4_selected_24 : decode cX4_selected 24 = .ok (.iconst 0, 1) := by decide +kernel
theorem dX4_selected_25 : decode cX4_selected 25 = .ok (.ireturn, 1) := by decide +kernel
theorem dX4_selected_26 : decode cX4_selected 26 = .ok (.aload_n 0, 1) := by decide +kernel
theorem dX4_selected_27 : decode cX4_selected 27 = .ok (.getfield 56, 3) := by decide +kernel
theorem dX4_selected_30 : decode cX4_selected 30 = .ok (.iload_n 1, 1) := by decide +kernel
theorem dX4_selected_31 : decode cX4_selected 31 = .ok (.iaload, 1) := by decide +kernel
theorem dX4_selected_32 : decode cX4_selected 32 = .ok (.ireturn, 1) := by decide +kernel
set_option maxRecDepth 20000 in
theorem ggX4_mayGoAll_X4_mayGo : GoodIn wsX4_mayGoAll wsX4_mayGo := goodIn_r _ [6, 7, 8, 9, 10, 11, 12, 5, 13, 14, 15, 16, 17, 18, 19, 20, 21, 22, 23, 24, 25, 26, 27, 28, 29, 30, 31, 32, 33, 34, 35, 36, 37, 38, 39, 40, 41, 42, 43] (by decide +kernel) (by decide +kernel)
set_option maxRecDepth 20000 in
theorem gX4_mayGoAll_X4_mayGo : GoodIn wsX4_mayGoAll (wsV RX4 120 RX4 yX4_mayGo wsX4_mayGo) := goodIn_app (goodIn_of _ (by decide +kernel)) ggX4_mayGoAll_X4_mayGo
theorem dX4_mayGoAll_0 : decode cX4_mayGoAll 0 = .ok (.iconst 0, 1) := by decide +kernel
theorem dX4_mayGoAll_1 : decode cX4_mayGoAll 1 = .ok (.istore_n 1, 1) := by decide +kernel
theorem dX4_mayGoAll_2 : decode cX4_mayGoAll 2 = .ok (.iconst 0, 1) := by decide +kernel
theorem dX4_mayGoAll_3 : decode cX4_mayGoAll 3 = .ok (.istore_n 2, 1) := by decide +kernel
theorem dX4_mayGoAll_4 : decode cX4_mayGoAll 4 = .ok (.iload_n 2, 1) := by decide +kernel
theorem dX4_mayGoAll_5 : decode cX4_mayGoAll 5 = .ok (.aload_n 0, 1) := by decide +kernel
theorem dX4_mayGoAll_6 : decode cX4_mayGoAll 6 = .ok (.getfield 86, 3) := by decide +kernel
theorem dX4_mayGoAll_9 : decode cX4_mayGoAll 9 = .ok (.if_icmp .ge 25, 3) := by decide +kernel
theorem dX4_mayGoAll_12 : decode cX4_mayGoAll 12 = .ok (.iload_n 1, 1) := by decide +kernel
theorem dX4_mayGoAll_13 : decode cX4_mayGoAll 13 = .ok (.aload_n 0, 1) := by decide +kernel
theorem dX4_mayGoAll_14 : decode cX4_mayGoAll 14 = .ok (.iload_n 2, 1) := by decide +kernel
theorem dX4_mayGoAll_15 : decode cX4_mayGoAll 15 = .ok (.invokevirtual 120, 3) := by decide +kernel
theorem dX4_mayGoAll_18 : decode cX4_mayGoAll 18 = .ok (.ifCond .eq 7, 3) := by decide +kernel
theorem dX4_mayGoAll_21 : decode cX4_mayGoAll 21 = .ok (.iconst 1, 1) := by decide +kernel
theorem dX4_mayGoAll_22 : decode cX4_mayGoAll 22 = .ok (.goto 4, 3) := by decide +kernel
theorem dX4_mayGoAll_25 : decode cX4_mayGoAll 25 = .ok (.iconst 0, 1) := by decide +kernel
theorem dX4_mayGoAll_26 : decode cX4_mayGoAll 26 = .ok (.iadd, 1) := by decide +kernel
theorem dX4_mayGoAll_27 : decode cX4_mayGoAll 27 = .ok (.istore_n 1, 1) := by decide +kernel
theorem dX4_mayGoAll_28 : decode cX4_mayGoAll 28 = .ok (.iinc 2 1, 3) := by decide +kernel
theorem dX4_mayGoAll_31 : decode cX4_mayGoAll 31 = .ok (.goto (-27), 3) := by decide +kernel
theorem dX4_mayGoAll_34 : decode cX4_mayGoAll 34 = .ok (.iload_n 1, 1) := by decide +kernel
theorem dX4_mayGoAll_35 : decode cX4_mayGoAll 35 = .ok (.ireturn, 1) := by decide +kernel
set_option maxRecDepth 20000 in
theorem ggX4_end_X4_isPlace : GoodIn wsX4_end wsX4_isPlace := goodIn_r _ [8, 9, 35, 36, 37, 38, 39, 40, 41, 42, 43, 44, 45, 46, 47, 48, 49, 50, 51, 52, 53, 54, 55, 56, 57, 58, 59, 60, 61, 62, 63] (by decide +kernel) (by decide +kernel)
set_option maxRecDepth 20000 in
theorem gX4_end_X4_isPlace : GoodIn wsX4_end (wsV RX4 114 RX4 yX4_isPlace wsX4_isPlace) := goodIn_app (goodIn_of _ (by decide +kernel)) ggX4_end_X4_isPlace
set_option maxRecDepth 20000 in
theorem ggX4_end_X4_at : GoodIn wsX4_end wsX4_at := goodIn_r _ [13, 14, 9, 15, 35, 36, 37, 38, 39, 40, 41, 42, 43, 44, 45, 46, 47, 48, 49, 50, 51, 52, 53, 54, 55, 56, 57, 58, 59, 60, 61, 62, 63] (by decide +kernel) (by decide +kernel)
set_option maxRecDepth 20000 in
theorem gX4_end_X4_at : GoodIn wsX4_end (wsV RX4 117 RX4 yX4_at wsX4_at) := goodIn_app (goodIn_of _ (by decide +kernel)) ggX4_end_X4_at
set_option maxRecDepth 20000 in
theorem ggX4_end_X4_throwing : GoodIn wsX4_end wsX4_throwing := goodIn_r _ [19, 20, 35, 36, 37, 38, 39, 40, 41, 42, 43, 44, 45, 46, 47, 48, 49, 50, 51, 52, 53, 54, 55, 56, 57, 58, 59, 60, 61, 62, 63] (by decide +kernel) (by decide +kernel)
set_option maxRecDepth 20000 in
theorem gX4_end_X4_throwing : GoodIn wsX4_end (wsV RX4 96 RX4 yX4_throwing wsX4_throwing) := goodIn_app (goodIn_of _ (by decide +kernel)) ggX4_end_X4_throwing
set_option maxRecDepth 20000 in
theorem ggX4_end_X4_mayGoAll : GoodIn wsX4_end wsX4_mayGoAll := goodIn_r _ [24, 15, 25, 26, 27, 7, 28, 1, 29, 30, 31, 32, 33, 34, 3, 35, 36, 37, 38, 39, 40, 41, 42, 43, 44, 45, 46, 47, 48, 49, 50, 51, 52, 53, 54, 55, 56, 57, 58, 59, 60, 61, 62, 63] (by decide +kernel) (by decide +kernel)
set_option maxRecDepth 20000 in
theorem gX4_end_X4_mayGoAll : GoodIn wsX4_end (wsV RX4 123 RX4 yX4_mayGoAll wsX4_mayGoAll) := goodIn_app (goodIn_of _ (by decide +kernel)) ggX4_end_X4_mayGoAll
theorem dX4_end_0 : decode cX4_end 0 = .ok (.aload_n 0, 1) := by decide +kernel
theorem dX4_end_1 : decode cX4_end 1 = .ok (.iload_n 1, 1) := by decide +kernel
theorem dX4_end_2 : decode cX4_end 2 = .ok (.invokevirtual 114, 3) := by decide +kernel
theorem dX4_end_5 : decode cX4_end 5 = .ok (.ifCond .eq 11, 3) := by decide +kernel
theorem dX4_end_8 : decode cX4_end 8 = .ok (.aload_n 0, 1) := by decide +kernel
theorem dX4_end_9 : decode cX4_end 9 = .ok (.iload_n 1, 1) := by decide +kernel
theorem dX4_end_10 : decode cX4_end 10 = .ok (.invokevirtual 117, 3) := by decide +kernel
theorem dX4_end_13 : decode cX4_end 13 = .ok (.goto 4, 3) := by decide +kernel
theorem dX4_end_16 : decode cX4_end 16 = .ok (.iconst (-1), 1) := by decide +kernel
theorem dX4_end_17 : decode cX4_end 17 = .ok (.istore_n 2, 1) := by decide +kernel
theorem dX4_end_18 : decode cX4_end 18 = .ok (.aload_n 0, 1) := by decide +kernel
theorem dX4_end_19 : decode cX4_end 19 = .ok (.aload_n 0, 1) := by decide +kernel
theorem dX4_end_20 : decode cX4_end 20 = .ok (.iload_n 1, 1) := by decide +kernel
theorem dX4_end_21 : decode cX4_end 21 = .ok (.invokevirtual 114, 3) := by decide +kernel
theorem dX4_end_24 : decode cX4_end 24 = .ok (.ifCond .ne 7, 3) := by decide +kernel
theorem dX4_end_27 : decode cX4_end 27 = .ok (.iconst 1, 1) := by decide +kernel
theorem dX4_end_28 : decode cX4_end 28 = .ok (.goto 4, 3) := by decide +kernel
theorem dX4_end_31 : decode cX4_end 31 = .ok (.iconst 0, 1) := by decide +kernel
theorem dX4_end_32 : decode cX4_end 32 = .ok (.iload_n 2, 1) := by decide +kernel
theorem dX4_end_33 : decode cX4_end 33 = .ok (.ifCond .lt 21, 3) := by decide +kernel
theorem dX4_end_36 : decode cX4_end 36 = .ok (.aload_n 0, 1) := by decide +kernel
theorem dX4_end_37 : decode cX4_end 37 = .ok (.getfield 44, 3) := by decide +kernel
theorem dX4_end_40 : decode cX4_end 40 = .ok (.iload_n 2, 1) := by decide +kernel
theorem dX4_end_41 : decode cX4_end 41 = .ok (.ifCond .ge 7, 3) := by decide +kernel
theorem dX4_end_44 : decode cX4_end 44 = .ok (.iconst 0, 1) := by decide +kernel
theorem dX4_end_45 : decode cX4_end 45 = .ok (.goto 4, 3) := by decide +kernel
theorem dX4_end_48 : decode cX4_end 48 = .ok (.iload_n 2, 1) := by decide +kernel
theorem dX4_end_49 : decode cX4_end 49 = .ok (.iaload, 1) := by decide +kernel
theorem dX4_end_50 : decode cX4_end 50 = .ok (.iconst 1, 1) := by decide +kernel
theorem dX4_end_51 : decode cX4_end 51 = .ok (.if_icmp .eq 7, 3) := by decide +kernel
theorem dX4_end_54 : decode cX4_end 54 = .ok (.iconst 1, 1) := by decide +kernel
theorem dX4_end_55 : decode cX4_end 55 = .ok (.goto 4, 3) := by decide +kernel
theorem dX4_end_58 : decode cX4_end 58 = .ok (.iconst 0, 1) := by decide +kernel
theorem dX4_end_59 : decode cX4_end 59 = .ok (.iconst 0, 1) := by decide +kernel
theorem dX4_end_60 : decode cX4_end 60 = .ok (.invokevirtual 96, 3) := by decide +kernel
theorem dX4_end_63 : decode cX4_end 63 = .ok (.ifCond .eq 5, 3) := by decide +kernel
theorem dX4_end_66 : decode cX4_end 66 = .ok (.iconst 0, 1) := by decide +kernel
theorem dX4_end_67 : decode cX4_end 67 = .ok (.ireturn, 1) := by decide +kernel
theorem dX4_end_68 : decode cX4_end 68 = .ok (.aload_n 0, 1) := by decide +kernel
theorem dX4_end_69 : decode cX4_end 69 = .ok (.invokevirtual 123, 3) := by decide +kernel
theorem dX4_end_72 : decode cX4_end 72 = .ok (.istore_n 3, 1) := by decide +kernel
theorem dX4_end_73 : decode cX4_end 73 = .ok (.aload_n 0, 1) := by decide +kernel
theorem dX4_end_74 : decode cX4_end 74 = .ok (.getfield 44, 3) := by decide +kernel
theorem dX4_end_77 : decode cX4_end 77 = .ok (.iload_n 2, 1) := by decide +kernel
theorem dX4_end_78 : decode cX4_end 78 = .ok (.iconst 2, 1) := by decide +kernel
theorem dX4_end_79 : decode cX4_end 79 = .ok (.iastore, 1) := by decide +kernel
theorem dX4_end_80 : decode cX4_end 80 = .ok (.aload_n 0, 1) := by decide +kernel
theorem dX4_end_81 : decode cX4_end 81 = .ok (.getfield 32, 3) := by decide +kernel
theorem dX4_end_84 : decode cX4_end 84 = .ok (.iload_n 2, 1) := by decide +kernel
theorem dX4_end_85 : decode cX4_end 85 = .ok (.iaload, 1) := by decide +kernel
theorem dX4_end_86 : decode cX4_end 86 = .ok (.ifCond .lt 15, 3) := by decide +kernel
theorem dX4_end_89 : decode cX4_end 89 = .ok (.aload_n 0, 1) := by decide +kernel
theorem dX4_end_90 : decode cX4_end 90 = .ok (.getfield 19, 3) := by decide +kernel
theorem dX4_end_93 : decode cX4_end 93 = .ok (.aload_n 0, 1) := by decide +kernel
theorem dX4_end_94 : decode cX4_end 94 = .ok (.getfield 32, 3) := by decide +kernel
theorem dX4_end_97 : decode cX4_end 97 = .ok (.iload_n 2, 1) := by decide +kernel
theorem dX4_end_98 : decode cX4_end 98 = .ok (.iaload, 1) := by decide +kernel
theorem dX4_end_99 : decode cX4_end 99 = .ok (.iconst 1, 1) := by decide +kernel
theorem dX4_end_100 : decode cX4_end 100 = .ok (.bastore, 1) := by decide +kernel
theorem dX4_end_101 : decode cX4_end 101 = .ok (.aload_n 0, 1) := by decide +kernel
theorem dX4_end_102 : decode cX4_end 102 = .ok (.invokevirtual 123, 3) := by decide +kernel
theorem dX4_end_105 : decode cX4_end 105 = .ok (.iload_n 3, 1) := by decide +kernel
theorem dX4_end_106 : decode cX4_end 106 = .ok (.isub, 1) := by decide +kernel
theorem dX4_end_107 : decode cX4_end 107 = .ok (.ireturn, 1) := by decide +kernel
theorem dX4_shift_0 : decode cX4_shift 0 = .ok (.aload_n 0, 1) := by decide +kernel
theorem dX4_shift_1 : decode cX4_shift 1 = .ok (.dup, 1) := by decide +kernel
theorem dX4_shift_2 : decode cX4_shift 2 = .ok (.getfield 86, 3) := by decide +kernel
theorem dX4_shift_5 : decode cX4_shift 5 = .ok (.iconst 1, 1) := by decide +kernel
theorem dX4_shift_6 : decode cX4_shift 6 = .ok (.isub, 1) := by decide +kernel
theorem dX4_shift_7 : decode cX4_shift 7 = .ok (.putfield 86, 3) := by decide +kernel
theorem dX4_shift_10 : decode cX4_shift 10 = .ok (.aload_n 0, 1) := by decide +kernel
theorem dX4_shift_11 : decode cX4_shift 11 = .ok (.aload_n 0, 1) := by decide +kernel
theorem dX4_shift_12 : decode cX4_shift 12 = .ok (.getfield 83, 3) := by decide +kernel
theorem dX4_shift_15 : decode cX4_shift 15 = .ok (.iconst 1, 1) := by decide +kernel
theorem dX4_shift_16 : decode cX4_shift 16 = .ok (.iadd, 1) := by decide +kernel
theorem dX4_shift_17 : decode cX4_shift 17 = .ok (.aload_n 0, 1) := by decide +kernel
theorem dX4_shift_18 : decode cX4_shift 18 = .ok (.getfield 70, 3) := by decide +kernel
theorem dX4_shift_21 : decode cX4_shift 21 = .ok (.irem, 1) := by decide +kernel
theorem dX4_shift_22 : decode cX4_shift 22 = .ok (.putfield 83, 3) := by decide +kernel
theorem dX4_shift_25 : decode cX4_shift 25 = .ok (.iconst 0, 1) := by decide +kernel
theorem dX4_shift_26 : decode cX4_shift 26 = .ok (.istore_n 1, 1) := by decide +kernel
theorem dX4_shift_27 : decode cX4_shift 27 = .ok (.iload_n 1, 1) := by decide +kernel
theorem dX4_shift_28 : decode cX4_shift 28 = .ok (.aload_n 0, 1) := by decide +kernel
theorem dX4_shift_29 : decode cX4_shift 29 = .ok (.getfield 86, 3) := by decide +kernel
theorem dX4_shift_32 : decode cX4_shift 32 = .ok (.if_icmp .ge 107, 3) := by decide +kernel
theorem dX4_shift_35 : decode cX4_shift 35 = .ok (.aload_n 0, 1) := by decide +kernel
theorem dX4_shift_36 : decode cX4_shift 36 = .ok (.getfield 26, 3) := by decide +kernel
theorem dX4_shift_39 : decode cX4_shift 39 = .ok (.iload_n 1, 1) := by decide +kernel
theorem dX4_shift_40 : decode cX4_shift 40 = .ok (.aload_n 0, 1) := by decide +kernel
theorem dX4_shift_41 : decode cX4_shift 41 = .ok (.getfield 26, 3) := by decide +kernel
theorem dX4_shift_44 : decode cX4_shift 44 = .ok (.iload_n 1, 1) := by decide +kernel
theorem dX4_shift_45 : decode cX4_shift 45 = .ok (.iconst 1, 1) := by decide +kernel
theorem dX4_shift_46 : decode cX4_shift 46 = .ok (.iadd, 1) := by decide +kernel
theorem dX4_shift_47 : decode cX4_shift 47 = .ok (.iaload, 1) := by decide +kernel
theorem dX4_shift_48 : decode cX4_shift 48 = .ok (.iastore, 1) := by decide +kernel
theorem dX4_shift_49 : decode cX4_shift 49 = .ok (.aload_n 0, 1) := by decide +kernel
theorem dX4_shift_50 : decode cX4_shift 50 = .ok (.getfield 29, 3) := by decide +kernel
theorem dX4_shift_53 : decode cX4_shift 53 = .ok (.iload_n 1, 1) := by decide +kernel
theorem dX4_shift_54 : decode cX4_shift 54 = .ok (.aload_n 0, 1) := by decide +kernel
theorem dX4_shift_55 : decode cX4_shift 55 = .ok (.getfield 29, 3) := by decide +kernel
theorem dX4_shift_58 : decode cX4_shift 58 = .ok (.iload_n 1, 1) := by decide +kernel
theorem dX4_shift_59 : decode cX4_shift 59 = .ok (.iconst 1, 1) := by decide +kernel
theorem dX4_shift_60 : decode cX4_shift 60 = .ok (.iadd, 1) := by decide +kernel
theorem dX4_shift_61 : decode cX4_shift 61 = .ok (.iaload, 1) := by decide +kernel
theorem dX4_shift_62 : decode cX4_shift 62 = .ok (.iastore, 1) := by decide +kernel
theorem dX4_shift_63 : decode cX4_shift 63 = .ok (.aload_n 0, 1) := by decide +kernel
theorem dX4_shift_64 : decode cX4_shift 64 = .ok (.getfield 32, 3) := by decide +kernel
theorem dX4_shift_67 : decode cX4_shift 67 = .ok (.iload_n 1, 1) := by decide +kernel
theorem dX4_shift_68 : decode cX4_shift 68 = .ok (.aload_n 0, 1) := by decide +kernel
theorem dX4_shift_69 : decode cX4_shift 69 = .ok (.getfield 32, 3) := by decide +kernel
theorem dX4_shift_72 : decode cX4_shift 72 = .ok (.iload_n 1, 1) := by decide +kernel
theorem dX4_shift_73 : decode cX4_shift 73 = .ok (.iconst 1, 1) := by decide +kernel
theorem dX4_shift_74 : decode cX4_shift 74 = .ok (.iadd, 1) := by decide +kernel
theorem dX4_shift_75 : decode cX4_shift 75 = .ok (.iaload, 1) := by decide +kernel
theorem dX4_shift_76 : decode cX4_shift 76 = .ok (.iastore, 1) := by decide +kernel
theorem dX4_shift_77 : decode cX4_shift 77 = .ok (.aload_n 0, 1) := by decide +kernel
theorem dX4_shift_78 : decode cX4_shift 78 = .ok (.getfield 35, 3) := by decide +kernel
theorem dX4_shift_81 : decode cX4_shift 81 = .ok (.iload_n 1, 1) := by decide +kernel
theorem dX4_shift_82 : decode cX4_shift 82 = .ok (.aload_n 0, 1) := by decide +kernel
theorem dX4_shift_83 : decode cX4_shift 83 = .ok (.getfield 35, 3) := by decide +kernel
theorem dX4_shift_86 : decode cX4_shift 86 = .ok (.iload_n 1, 1) := by decide +kernel
theorem dX4_shift_87 : decode cX4_shift 87 = .ok (.iconst 1, 1) := by decide +kernel
theorem dX4_shift_88 : decode cX4_shift 88 = .ok (.iadd, 1) := by decide +kernel
theorem dX4_shift_89 : decode cX4_shift 89 = .ok (.iaload, 1) := by decide +kernel
theorem dX4_shift_90 : decode cX4_shift 90 = .ok (.iastore, 1) := by decide +kernel
theorem dX4_shift_91 : decode cX4_shift 91 = .ok (.aload_n 0, 1) := by decide +kernel
theorem dX4_shift_92 : decode cX4_shift 92 = .ok (.getfield 38, 3) := by decide +kernel
theorem dX4_shift_95 : decode cX4_shift 95 = .ok (.iload_n 1, 1) := by decide +kernel
theorem dX4_shift_96 : decode cX4_shift 96 = .ok (.aload_n 0, 1) := by decide +kernel
theorem dX4_shift_97 : decode cX4_shift 97 = .ok (.getfield 38, 3) := by decide +kernel
theorem dX4_shift_100 : decode cX4_shift 100 = .ok (.iload_n 1, 1) := by decide +kernel
theorem dX4_shift_101 : decode cX4_shift 101 = .ok (.iconst 1, 1) := by decide +kernel
theorem dX4_shift_102 : decode cX4_shift 102 = .ok (.iadd, 1) := by decide +kernel
theorem dX4_shift_103 : decode cX4_shift 103 = .ok (.iaload, 1) := by decide +kernel
theorem dX4_shift_104 : decode cX4_shift 104 = .ok (.iastore, 1) := by decide +kernel
theorem dX4_shift_105 : decode cX4_shift 105 = .ok (.aload_n 0, 1) := by decide +kernel
theorem dX4_shift_106 : decode cX4_shift 106 = .ok (.getfield 41, 3) := by decide +kernel
theorem dX4_shift_109 : decode cX4_shift 109 = .ok (.iload_n 1, 1) := by decide +kernel
theorem dX4_shift_110 : decode cX4_shift 110 = .ok (.aload_n 0, 1) := by decide +kernel
theorem dX4_shift_111 : decode cX4_shift 111 = .ok (.getfield 41, 3) := by decide +kernel
theorem dX4_shift_114 : decode cX4_shift 114 = .ok (.iload_n 1, 1) := by decide +kernel
theorem dX4_shift_115 : decode cX4_shift 115 = .ok (.iconst 1, 1) := by decide +kernel
theorem dX4_shift_116 : decode cX4_shift 116 = .ok (.iadd, 1) := by decide +kernel
theorem dX4_shift_117 : decode cX4_shift 117 = .ok (.iaload, 1) := by decide +kernel
theorem dX4_shift_118 : decode cX4_shift 118 = .ok (.iastore, 1) := by decide +kernel
theorem dX4_shift_119 : decode cX4_shift 119 = .ok (.aload_n 0, 1) := by decide +kernel
theorem dX4_shift_120 : decode cX4_shift 120 = .ok (.getfield 44, 3) := by decide +kernel
theorem dX4_shift_123 : decode cX4_shift 123 = .ok (.iload_n 1, 1) := by decide +kernel
theorem dX4_shift_124 : decode cX4_shift 124 = .ok (.aload_n 0, 1) := by decide +kernel
theorem dX4_shift_125 : decode cX4_shift 125 = .ok (.getfield 44, 3) := by decide +kernel
theorem dX4_shift_128 : decode cX4_shift 128 = .ok (.iload_n 1, 1) := by decide +kernel
theorem dX4_shift_129 : decode cX4_shift 129 = .ok (.iconst 1, 1) := by decide +kernel
theorem dX4_shift_130 : decode cX4_shift 130 = .ok (.iadd, 1) := by decide +kernel
theorem dX4_shift_131 : decode cX4_shift 131 = .ok (.iaload, 1) := by decide +kernel
theorem dX4_shift_132 : decode cX4_shift 132 = .ok (.iastore, 1) := by decide +kernel
theorem dX4_shift_133 : decode cX4_shift 133 = .ok (.iinc 1 1, 3) := by decide +kernel
theorem dX4_shift_136 : decode cX4_shift 136 = .ok (.goto (-109), 3) := by decide +kernel
theorem dX4_shift_139 : decode cX4_shift 139 = .ok (.return_, 1) := by decide +kernel
theorem dX4_bound_0 : decode cX4_bound 0 = .ok (.ldc 126, 2) := by decide +kernel
theorem dX4_bound_2 : decode cX4_bound 2 = .ok (.istore_n 1, 1) := by decide +kernel
theorem dX4_bound_3 : decode cX4_bound 3 = .ok (.iconst 0, 1) := by decide +kernel
theorem dX4_bound_4 : decode cX4_bound 4 = .ok (.istore_n 2, 1) := by decide +kernel
theorem dX4_bound_5 : decode cX4_bound 5 = .ok (.iload_n 2, 1) := by decide +kernel
theorem dX4_bound_6 : decode cX4_bound 6 = .ok (.bipush 8, 2) := by decide +kernel
theorem dX4_bound_8 : decode cX4_bound 8 = .ok (.if_icmp .ge 35, 3) := by decide +kernel
theorem dX4_bound_11 : decode cX4_bound 11 = .ok (.aload_n 0, 1) := by decide +kernel
theorem dX4_bound_12 : decode cX4_bound 12 = .ok (.getfield 47, 3) := by decide +kernel
theorem dX4_bound_15 : decode cX4_bound 15 = .ok (.iload_n 2, 1) := by decide +kernel
theorem dX4_bound_16 : decode cX4_bound 16 = .ok (.baload, 1) := by decide +kernel
theorem dX4_bound_17 : decode cX4_bound 17 = .ok (.ifCond .eq 20, 3) := by decide +kernel
theorem dX4_bound_20 : decode cX4_bound 20 = .ok (.aload_n 0, 1) := by decide +kernel
theorem dX4_bound_21 : decode cX4_bound 21 = .ok (.getfield 50, 3) := by decide +kernel
theorem dX4_bound_24 : decode cX4_bound 24 = .ok (.iload_n 2, 1) := by decide +kernel
theorem dX4_bound_25 : decode cX4_bound 25 = .ok (.iaload, 1) := by decide +kernel
theorem dX4_bound_26 : decode cX4_bound 26 = .ok (.iload_n 1, 1) := by decide +kernel
theorem dX4_bound_27 : decode cX4_bound 27 = .ok (.if_icmp .ge 10, 3) := by decide +kernel
theorem dX4_bound_30 : decode cX4_bound 30 = .ok (.aload_n 0, 1) := by decide +kernel
theorem dX4_bound_31 : decode cX4_bound 31 = .ok (.getfield 50, 3) := by decide +kernel
theorem dX4_bound_34 : decode cX4_bound 34 = .ok (.iload_n 2, 1) := by decide +kernel
theorem dX4_bound_35 : decode cX4_bound 35 = .ok (.iaload, 1) := by decide +kernel
theorem dX4_bound_36 : decode cX4_bound 36 = .ok (.istore_n 1, 1) := by decide +kernel
theorem dX4_bound_37 : decode cX4_bound 37 = .ok (.iinc 2 1, 3) := by decide +kernel
theorem dX4_bound_40 : decode cX4_bound 40 = .ok (.goto (-35), 3) := by decide +kernel
theorem dX4_bound_43 : decode cX4_bound 43 = .ok (.iload_n 1, 1) := by decide +kernel
theorem dX4_bound_44 : decode cX4_bound 44 = .ok (.ireturn, 1) := by decide +kernel
set_option maxRecDepth 20000 in
theorem ggX4_commit_X4_throwing : GoodIn wsX4_commit wsX4_throwing := goodIn_r _ [12, 13, 37, 38, 39, 40, 41, 42, 43, 44, 45, 46, 47, 48, 49, 50, 51, 52, 53, 54, 55, 56, 57, 58, 59, 60, 61, 62, 63, 64, 65] (by decide +kernel) (by decide +kernel)
set_option maxRecDepth 20000 in
theorem gX4_commit_X4_throwing : GoodIn wsX4_commit (wsV RX4 96 RX4 yX4_throwing wsX4_throwing) := goodIn_app (goodIn_of _ (by decide +kernel)) ggX4_commit_X4_throwing
set_option maxRecDepth 20000 in
theorem ggX4_commit_X4_bound : GoodIn wsX4_commit wsX4_bound := goodIn_r _ [17, 18, 19, 20, 37, 38, 39, 40, 41, 42, 43, 44, 45, 46, 47, 48, 49, 50, 51, 52, 53, 54, 55, 56, 57, 58, 59, 60, 61, 62, 63, 64, 65] (by decide +kernel) (by decide +kernel)
set_option maxRecDepth 20000 in
theorem gX4_commit_X4_bound : GoodIn wsX4_commit (wsV RX4 130 RX4 yX4_bound wsX4_bound) := goodIn_app (goodIn_of _ (by decide +kernel)) ggX4_commit_X4_bound
set_option maxRecDepth 20000 in
theorem ggX4_commit_X4_giveBack : GoodIn wsX4_commit wsX4_giveBack := goodIn_r _ [24, 25, 26, 27, 37, 38, 39, 40, 41, 42, 43, 44, 45, 46, 47, 48, 49, 50, 51, 52, 53, 54, 55, 56, 57, 58, 59, 60, 61, 62, 63, 64, 65] (by decide +kernel) (by decide +kernel)
set_option maxRecDepth 20000 in
theorem gX4_commit_X4_giveBack : GoodIn wsX4_commit (wsV RX4 133 RX4 yX4_giveBack wsX4_giveBack) := goodIn_app (goodIn_of _ (by decide +kernel)) ggX4_commit_X4_giveBack
set_option maxRecDepth 20000 in
theorem ggX4_commit_X4_shift : GoodIn wsX4_commit wsX4_shift := goodIn_r _ [31, 1, 32, 33, 34, 35, 6, 7, 4, 36, 2, 37, 38, 39, 40, 41, 42, 43, 44, 45, 46, 47, 48, 49, 50, 51, 52, 53, 54, 55, 56, 57, 58, 59, 60, 61, 62, 63, 64, 65] (by decide +kernel) (by decide +kernel)
set_option maxRecDepth 20000 in
theorem gX4_commit_X4_shift : GoodIn wsX4_commit (wsV RX4 137 RX4 yX4_shift wsX4_shift) := goodIn_app (goodIn_of _ (by decide +kernel)) ggX4_commit_X4_shift
theorem dX4_commit_0 : decode cX4_commit 0 = .ok (.aload_n 0, 1) := by decide +kernel
theorem dX4_commit_1 : decode cX4_commit 1 = .ok (.iload_n 1, 1) := by decide +kernel
theorem dX4_commit_2 : decode cX4_commit 2 = .ok (.ifCond .ge 7, 3) := by decide +kernel
theorem dX4_commit_5 : decode cX4_commit 5 = .ok (.iconst 1, 1) := by decide +kernel
theorem dX4_commit_6 : decode cX4_commit 6 = .ok (.goto 4, 3) := by decide +kernel
theorem dX4_commit_9 : decode cX4_commit 9 = .ok (.iconst 0, 1) := by decide +kernel
theorem dX4_commit_10 : decode cX4_commit 10 = .ok (.iconst 0, 1) := by decide +kernel
theorem dX4_commit_11 : decode cX4_commit 11 = .ok (.iconst 0, 1) := by decide +kernel
theorem dX4_commit_12 : decode cX4_commit 12 = .ok (.invokevirtual 96, 3) := by decide +kernel
theorem dX4_commit_15 : decode cX4_commit 15 = .ok (.ifCond .eq 5, 3) := by decide +kernel
theorem dX4_commit_18 : decode cX4_commit 18 = .ok (.iconst 0, 1) := by decide +kernel
theorem dX4_commit_19 : decode cX4_commit 19 = .ok (.ireturn, 1) := by decide +kernel
theorem dX4_commit_20 : decode cX4_commit 20 = .ok (.iconst 0, 1) := by decide +kernel
theorem dX4_commit_21 : decode cX4_commit 21 = .ok (.istore_n 2, 1) := by decide +kernel
theorem dX4_commit_22 : decode cX4_commit 22 = .ok (.iload_n 2, 1) := by decide +kernel
theorem dX4_commit_23 : decode cX4_commit 23 = .ok (.iload_n 1, 1) := by decide +kernel
theorem dX4_commit_24 : decode cX4_commit 24 = .ok (.if_icmp .ge 87, 3) := by decide +kernel
theorem dX4_commit_27 : decode cX4_commit 27 = .ok (.aload_n 0, 1) := by decide +kernel
theorem dX4_commit_28 : decode cX4_commit 28 = .ok (.getfield 86, 3) := by decide +kernel
theorem dX4_commit_31 : decode cX4_commit 31 = .ok (.ifCond .le 80, 3) := by decide +kernel
theorem dX4_commit_34 : decode cX4_commit 34 = .ok (.aload_n 0, 1) := by decide +kernel
theorem dX4_commit_35 : decode cX4_commit 35 = .ok (.getfield 44, 3) := by decide +kernel
theorem dX4_commit_38 : decode cX4_commit 38 = .ok (.iconst 0, 1) := by decide +kernel
theorem dX4_commit_39 : decode cX4_commit 39 = .ok (.iaload, 1) := by decide +kernel
theorem dX4_commit_40 : decode cX4_commit 40 = .ok (.iconst 2, 1) := by decide +kernel
theorem dX4_commit_41 : decode cX4_commit 41 = .ok (.if_icmp .ne 70, 3) := by decide +kernel
theorem dX4_commit_44 : decode cX4_commit 44 = .ok (.aload_n 0, 1) := by decide +kernel
theorem dX4_commit_45 : decode cX4_commit 45 = .ok (.getfield 127, 3) := by decide +kernel
theorem dX4_commit_48 : decode cX4_commit 48 = .ok (.aload_n 0, 1) := by decide +kernel
theorem dX4_commit_49 : decode cX4_commit 49 = .ok (.invokevirtual 130, 3) := by decide +kernel
theorem dX4_commit_52 : decode cX4_commit 52 = .ok (.if_icmp .ge 59, 3) := by decide +kernel
theorem dX4_commit_55 : decode cX4_commit 55 = .ok (.aload_n 0, 1) := by decide +kernel
theorem dX4_commit_56 : decode cX4_commit 56 = .ok (.getfield 38, 3) := by decide +kernel
theorem dX4_commit_59 : decode cX4_commit 59 = .ok (.iconst 0, 1) := by decide +kernel
theorem dX4_commit_60 : decode cX4_commit 60 = .ok (.iaload, 1) := by decide +kernel
theorem dX4_commit_61 : decode cX4_commit 61 = .ok (.ifCond .lt 30, 3) := by decide +kernel
theorem dX4_commit_64 : decode cX4_commit 64 = .ok (.aload_n 0, 1) := by decide +kernel
theorem dX4_commit_65 : decode cX4_commit 65 = .ok (.getfield 13, 3) := by decide +kernel
theorem dX4_commit_68 : decode cX4_commit 68 = .ok (.aload_n 0, 1) := by decide +kernel
theorem dX4_commit_69 : decode cX4_commit 69 = .ok (.getfield 38, 3) := by decide +kernel
theorem dX4_commit_72 : decode cX4_commit 72 = .ok (.iconst 0, 1) := by decide +kernel
theorem dX4_commit_73 : decode cX4_commit 73 = .ok (.iaload, 1) := by decide +kernel
theorem dX4_commit_74 : decode cX4_commit 74 = .ok (.aload_n 0, 1) := by decide +kernel
theorem dX4_commit_75 : decode cX4_commit 75 = .ok (.getfield 32, 3) := by decide +kernel
theorem dX4_commit_78 : decode cX4_commit 78 = .ok (.iconst 0, 1) := by decide +kernel
theorem dX4_commit_79 : decode cX4_commit 79 = .ok (.iaload, 1) := by decide +kernel
theorem dX4_commit_80 : decode cX4_commit 80 = .ok (.iastore, 1) := by decide +kernel
theorem dX4_commit_81 : decode cX4_commit 81 = .ok (.aload_n 0, 1) := by decide +kernel
theorem dX4_commit_82 : decode cX4_commit 82 = .ok (.aload_n 0, 1) := by decide +kernel
theorem dX4_commit_83 : decode cX4_commit 83 = .ok (.getfield 35, 3) := by decide +kernel
theorem dX4_commit_86 : decode cX4_commit 86 = .ok (.iconst 0, 1) := by decide +kernel
theorem dX4_commit_87 : decode cX4_commit 87 = .ok (.iaload, 1) := by decide +kernel
theorem dX4_commit_88 : decode cX4_commit 88 = .ok (.invokevirtual 133, 3) := by decide +kernel
theorem dX4_commit_91 : decode cX4_commit 91 = .ok (.aload_n 0, 1) := by decide +kernel
theorem dX4_commit_92 : decode cX4_commit 92 = .ok (.invokevirtual 137, 3) := by decide +kernel
theorem dX4_commit_95 : decode cX4_commit 95 = .ok (.aload_n 0, 1) := by decide +kernel
theorem dX4_commit_96 : decode cX4_commit 96 = .ok (.dup, 1) := by decide +kernel
theorem dX4_commit_97 : decode cX4_commit 97 = .ok (.getfield 127, 3) := by decide +kernel
theorem dX4_commit_100 : decode cX4_commit 100 = .ok (.iconst 1, 1) := by decide +kernel
theorem dX4_commit_101 : decode cX4_commit 101 = .ok (.iadd, 1) := by decide +kernel
theorem dX4_commit_102 : decode cX4_commit 102 = .ok (.putfield 127, 3) := by decide +kernel
theorem dX4_commit_105 : decode cX4_commit 105 = .ok (.iinc 2 1, 3) := by decide +kernel
theorem dX4_commit_108 : decode cX4_commit 108 = .ok (.goto (-86), 3) := by decide +kernel
theorem dX4_commit_111 : decode cX4_commit 111 = .ok (.iload_n 2, 1) := by decide +kernel
theorem dX4_commit_112 : decode cX4_commit 112 = .ok (.ireturn, 1) := by decide +kernel
theorem dX4_branch_0 : decode cX4_branch 0 = .ok (.aload_n 0, 1) := by decide +kernel
theorem dX4_branch_1 : decode cX4_branch 1 = .ok (.iconst 0, 1) := by decide +kernel
theorem dX4_branch_2 : decode cX4_branch 2 = .ok (.putfield 76, 3) := by decide +kernel
theorem dX4_branch_5 : decode cX4_branch 5 = .ok (.iconst 0, 1) := by decide +kernel
theorem dX4_branch_6 : decode cX4_branch 6 = .ok (.istore_n 1, 1) := by decide +kernel
theorem dX4_branch_7 : decode cX4_branch 7 = .ok (.iload_n 1, 1) := by decide +kernel
theorem dX4_branch_8 : decode cX4_branch 8 = .ok (.bipush 8, 2) := by decide +kernel
theorem dX4_branch_10 : decode cX4_branch 10 = .ok (.if_icmp .ge 75, 3) := by decide +kernel
theorem dX4_branch_13 : decode cX4_branch 13 = .ok (.aload_n 0, 1) := by decide +kernel
theorem dX4_branch_14 : decode cX4_branch 14 = .ok (.getfield 47, 3) := by decide +kernel
theorem dX4_branch_17 : decode cX4_branch 17 = .ok (.iload_n 1, 1) := by decide +kernel
theorem dX4_branch_18 : decode cX4_branch 18 = .ok (.baload, 1) := by decide +kernel
theorem dX4_branch_19 : decode cX4_branch 19 = .ok (.ifCond .eq 6, 3) := by decide +kernel
theorem dX4_branch_22 : decode cX4_branch 22 = .ok (.goto 57, 3) := by decide +kernel
theorem dX4_branch_25 : decode cX4_branch 25 = .ok (.aload_n 0, 1) := by decide +kernel
theorem dX4_branch_26 : decode cX4_branch 26 = .ok (.getfield 47, 3) := by decide +kernel
theorem dX4_branch_29 : decode cX4_branch 29 = .ok (.iload_n 1, 1) := by decide +kernel
theorem dX4_branch_30 : decode cX4_branch 30 = .ok (.iconst 1, 1) := by decide +kernel
theorem dX4_branch_31 : decode cX4_branch 31 = .ok (.bastore, 1) := by decide +kernel
theorem dX4_branch_32 : decode cX4_branch 32 = .ok (.aload_n 0, 1) := by decide +kernel
theorem dX4_branch_33 : decode cX4_branch 33 = .ok (.dup, 1) := by decide +kernel
theorem dX4_branch_34 : decode cX4_branch 34 = .ok (.getfield 140, 3) := by decide +kernel
theorem dX4_branch_37 : decode cX4_branch 37 = .ok (.iconst 1, 1) := by decide +kernel
theorem dX4_branch_38 : decode cX4_branch 38 = .ok (.iadd, 1) := by decide +kernel
theorem dX4_branch_39 : decode cX4_branch 39 = .ok (.putfield 140, 3) := by decide +kernel
theorem dX4_branch_42 : decode cX4_branch 42 = .ok (.aload_n 0, 1) := by decide +kernel
theorem dX4_branch_43 : decode cX4_branch 43 = .ok (.getfield 50, 3) := by decide +kernel
theorem dX4_branch_46 : decode cX4_branch 46 = .ok (.iload_n 1, 1) := by decide +kernel
theorem dX4_branch_47 : decode cX4_branch 47 = .ok (.aload_n 0, 1) := by decide +kernel
theorem dX4_branch_48 : decode cX4_branch 48 = .ok (.getfield 127, 3) := by decide +kernel
theorem dX4_branch_51 : decode cX4_branch 51 = .ok (.aload_n 0, 1) := by decide +kernel
theorem dX4_branch_52 : decode cX4_branch 52 = .ok (.getfield 86, 3) := by decide +kernel
theorem dX4_branch_55 : decode cX4_branch 55 = .ok (.iadd, 1) := by decide +kernel
theorem dX4_branch_56 : decode cX4_branch 56 = .ok (.iastore, 1) := by decide +kernel
theorem dX4_branch_57 : decode cX4_branch 57 = .ok (.aload_n 0, 1) := by decide +kernel
theorem dX4_branch_58 : decode cX4_branch 58 = .ok (.getfield 53, 3) := by decide +kernel
theorem dX4_branch_61 : decode cX4_branch 61 = .ok (.iload_n 1, 1) := by decide +kernel
theorem dX4_branch_62 : decode cX4_branch 62 = .ok (.aload_n 0, 1) := by decide +kernel
theorem dX4_branch_63 : decode cX4_branch 63 = .ok (.getfield 143, 3) := by decide +kernel
theorem dX4_branch_66 : decode cX4_branch 66 = .ok (.iastore, 1) := by decide +kernel
theorem dX4_branch_67 : decode cX4_branch 67 = .ok (.aload_n 0, 1) := by decide +kernel
theorem dX4_branch_68 : decode cX4_branch 68 = .ok (.dup, 1) := by decide +kernel
theorem dX4_branch_69 : decode cX4_branch 69 = .ok (.getfield 143, 3) := by decide +kernel
theorem dX4_branch_72 : decode cX4_branch 72 = .ok (.iconst 1, 1) := by decide +kernel
theorem dX4_branch_73 : decode cX4_branch 73 = .ok (.iadd, 1) := by decide +kernel
theorem dX4_branch_74 : decode cX4_branch 74 = .ok (.putfield 143, 3) := by decide +kernel
theorem dX4_branch_77 : decode cX4_branch 77 = .ok (.iload_n 1, 1) := by decide +kernel
theorem dX4_branch_78 : decode cX4_branch 78 = .ok (.ireturn, 1) := by decide +kernel
theorem dX4_branch_79 : decode cX4_branch 79 = .ok (.iinc 1 1, 3) := by decide +kernel
theorem dX4_branch_82 : decode cX4_branch 82 = .ok (.goto (-75), 3) := by decide +kernel
theorem dX4_branch_85 : decode cX4_branch 85 = .ok (.iconst (-1), 1) := by decide +kernel
theorem dX4_branch_86 : decode cX4_branch 86 = .ok (.ireturn, 1) := by decide +kernel
theorem dX4_isMark_0 : decode cX4_isMark 0 = .ok (.iload_n 1, 1) := by decide +kernel
theorem dX4_isMark_1 : decode cX4_isMark 1 = .ok (.ifCond .lt 13, 3) := by decide +kernel
theorem dX4_isMark_4 : decode cX4_isMark 4 = .ok (.iload_n 1, 1) := by decide +kernel
theorem dX4_isMark_5 : decode cX4_isMark 5 = .ok (.bipush 8, 2) := by decide +kernel
theorem dX4_isMark_7 : decode cX4_isMark 7 = .ok (.if_icmp .ge 7, 3) := by decide +kernel
theorem dX4_isMark_10 : decode cX4_isMark 10 = .ok (.iconst 1, 1) := by decide +kernel
theorem dX4_isMark_11 : decode cX4_isMark 11 = .ok (.goto 4, 3) := by decide +kernel
theorem dX4_isMark_14 : decode cX4_isMark 14 = .ok (.iconst 0, 1) := by decide +kernel
theorem dX4_isMark_15 : decode cX4_isMark 15 = .ok (.ireturn, 1) := by decide +kernel
theorem dX4_drop_0 : decode cX4_drop 0 = .ok (.aload_n 0, 1) := by decide +kernel
theorem dX4_drop_1 : decode cX4_drop 1 = .ok (.getfield 47, 3) := by decide +kernel
theorem dX4_drop_4 : decode cX4_drop 4 = .ok (.iload_n 1, 1) := by decide +kernel
theorem dX4_drop_5 : decode cX4_drop 5 = .ok (.iconst 0, 1) := by decide +kernel
theorem dX4_drop_6 : decode cX4_drop 6 = .ok (.bastore, 1) := by decide +kernel
theorem dX4_drop_7 : decode cX4_drop 7 = .ok (.aload_n 0, 1) := by decide +kernel
theorem dX4_drop_8 : decode cX4_drop 8 = .ok (.dup, 1) := by decide +kernel
theorem dX4_drop_9 : decode cX4_drop 9 = .ok (.getfield 140, 3) := by decide +kernel
theorem dX4_drop_12 : decode cX4_drop 12 = .ok (.iconst 1, 1) := by decide +kernel
theorem dX4_drop_13 : decode cX4_drop 13 = .ok (.isub, 1) := by decide +kernel
theorem dX4_drop_14 : decode cX4_drop 14 = .ok (.putfield 140, 3) := by decide +kernel
theorem dX4_drop_17 : decode cX4_drop 17 = .ok (.return_, 1) := by decide +kernel
set_option maxRecDepth 20000 in
theorem ggX4_right_X4_isMark : GoodIn wsX4_right wsX4_isMark := goodIn_r _ [7] (by decide +kernel) (by decide +kernel)
set_option maxRecDepth 20000 in
theorem gX4_right_X4_isMark : GoodIn wsX4_right (wsV RX4 146 RX4 yX4_isMark wsX4_isMark) := goodIn_app (goodIn_of _ (by decide +kernel)) ggX4_right_X4_isMark
set_option maxRecDepth 20000 in
theorem ggX4_right_X4_throwing : GoodIn wsX4_right wsX4_throwing := goodIn_r _ [11, 12, 17, 18, 19, 20, 21, 22, 23, 24, 25, 26, 27, 28, 29, 30, 31, 32, 33, 34, 35, 36, 37, 38, 39, 40, 41, 42, 43, 44, 45] (by decide +kernel) (by decide +kernel)
set_option maxRecDepth 20000 in
theorem gX4_right_X4_throwing : GoodIn wsX4_right (wsV RX4 96 RX4 yX4_throwing wsX4_throwing) := goodIn_app (goodIn_of _ (by decide +kernel)) ggX4_right_X4_throwing
set_option maxRecDepth 20000 in
theorem ggX4_right_X4_drop : GoodIn wsX4_right wsX4_drop := goodIn_r _ [16, 1, 2, 17, 18, 19, 20, 21, 22, 23, 24, 25, 26, 27, 28, 29, 30, 31, 32, 33, 34, 35, 36, 37, 38, 39, 40, 41, 42, 43, 44, 45] (by decide +kernel) (by decide +kernel)
set_option maxRecDepth 20000 in
theorem gX4_right_X4_drop : GoodIn wsX4_right (wsV RX4 149 RX4 yX4_drop wsX4_drop) := goodIn_app (goodIn_of _ (by decide +kernel)) ggX4_right_X4_drop
theorem dX4_right_0 : decode cX4_right 0 = .ok (.aload_n 0, 1) := by decide +kernel
theorem dX4_right_1 : decode cX4_right 1 = .ok (.aload_n 0, 1) := by decide +kernel
theorem dX4_right_2 : decode cX4_right 2 = .ok (.iload_n 1, 1) := by decide +kernel
theorem dX4_right_3 : decode cX4_right 3 = .ok (.invokevirtual 146, 3) := by decide +kernel
theorem dX4_right_6 : decode cX4_right 6 = .ok (.ifCond .ne 7, 3) := by decide +kernel
theorem dX4_right_9 : decode cX4_right 9 = .ok (.iconst 1, 1) := by decide +kernel
theorem dX4_right_10 : decode cX4_right 10 = .ok (.goto 4, 3) := by decide +kernel
theorem dX4_right_13 : decode cX4_right 13 = .ok (.iconst 0, 1) := by decide +kernel
theorem dX4_right_14 : decode cX4_right 14 = .ok (.aload_n 0, 1) := by decide +kernel
theorem dX4_right_15 : decode cX4_right 15 = .ok (.getfield 47, 3) := by decide +kernel
theorem dX4_right_18 : decode cX4_right 18 = .ok (.aload_n 0, 1) := by decide +kernel
theorem dX4_right_19 : decode cX4_right 19 = .ok (.iload_n 1, 1) := by decide +kernel
theorem dX4_right_20 : decode cX4_right 20 = .ok (.invokevirtual 146, 3) := by decide +kernel
theorem dX4_right_23 : decode cX4_right 23 = .ok (.ifCond .eq 7, 3) := by decide +kernel
theorem dX4_right_26 : decode cX4_right 26 = .ok (.iload_n 1, 1) := by decide +kernel
theorem dX4_right_27 : decode cX4_right 27 = .ok (.goto 4, 3) := by decide +kernel
theorem dX4_right_30 : decode cX4_right 30 = .ok (.iconst 0, 1) := by decide +kernel
theorem dX4_right_31 : decode cX4_right 31 = .ok (.baload, 1) := by decide +kernel
theorem dX4_right_32 : decode cX4_right 32 = .ok (.ifCond .ne 7, 3) := by decide +kernel
theorem dX4_right_35 : decode cX4_right 35 = .ok (.iconst 1, 1) := by decide +kernel
theorem dX4_right_36 : decode cX4_right 36 = .ok (.goto 4, 3) := by decide +kernel
theorem dX4_right_39 : decode cX4_right 39 = .ok (.iconst 0, 1) := by decide +kernel
theorem dX4_right_40 : decode cX4_right 40 = .ok (.iconst 0, 1) := by decide +kernel
theorem dX4_right_41 : decode cX4_right 41 = .ok (.invokevirtual 96, 3) := by decide +kernel
theorem dX4_right_44 : decode cX4_right 44 = .ok (.ifCond .eq 5, 3) := by decide +kernel
theorem dX4_right_47 : decode cX4_right 47 = .ok (.iconst 0, 1) := by decide +kernel
theorem dX4_right_48 : decode cX4_right 48 = .ok (.ireturn, 1) := by decide +kernel
theorem dX4_right_49 : decode cX4_right 49 = .ok (.aload_n 0, 1) := by decide +kernel
theorem dX4_right_50 : decode cX4_right 50 = .ok (.iload_n 1, 1) := by decide +kernel
theorem dX4_right_51 : decode cX4_right 51 = .ok (.invokevirtual 149, 3) := by decide +kernel
theorem dX4_right_54 : decode cX4_right 54 = .ok (.aload_n 0, 1) := by decide +kernel
theorem dX4_right_55 : decode cX4_right 55 = .ok (.getfield 140, 3) := by decide +kernel
theorem dX4_right_58 : decode cX4_right 58 = .ok (.ireturn, 1) := by decide +kernel
set_option maxRecDepth 20000 in
theorem ggX4_wrong_X4_isMark : GoodIn wsX4_wrong wsX4_isMark := goodIn_r _ [15] (by decide +kernel) (by decide +kernel)
set_option maxRecDepth 20000 in
theorem gX4_wrong_X4_isMark : GoodIn wsX4_wrong (wsV RX4 146 RX4 yX4_isMark wsX4_isMark) := goodIn_app (goodIn_of _ (by decide +kernel)) ggX4_wrong_X4_isMark
set_option maxRecDepth 20000 in
theorem ggX4_wrong_X4_throwing : GoodIn wsX4_wrong wsX4_throwing := goodIn_r _ [19, 20, 33, 34, 35, 36, 37, 38, 39, 40, 41, 42, 43, 44, 45, 46, 47, 48, 49, 50, 51, 52, 53, 54, 55, 56, 57, 58, 59, 60, 61] (by decide +kernel) (by decide +kernel)
set_option maxRecDepth 20000 in
theorem gX4_wrong_X4_throwing : GoodIn wsX4_wrong (wsV RX4 96 RX4 yX4_throwing wsX4_throwing) := goodIn_app (goodIn_of _ (by decide +kernel)) ggX4_wrong_X4_throwing
set_option maxRecDepth 20000 in
theorem ggX4_wrong_X4_giveBack : GoodIn wsX4_wrong wsX4_giveBack := goodIn_r _ [24, 25, 26, 27, 33, 34, 35, 36, 37, 38, 39, 40, 41, 42, 43, 44, 45, 46, 47, 48, 49, 50, 51, 52, 53, 54, 55, 56, 57, 58, 59, 60, 61] (by decide +kernel) (by decide +kernel)
set_option maxRecDepth 20000 in
theorem gX4_wrong_X4_giveBack : GoodIn wsX4_wrong (wsV RX4 133 RX4 yX4_giveBack wsX4_giveBack) := goodIn_app (goodIn_of _ (by decide +kernel)) ggX4_wrong_X4_giveBack
set_option maxRecDepth 20000 in
theorem ggX4_wrong_X4_drop : GoodIn wsX4_wrong wsX4_drop := goodIn_r _ [31, 1, 32, 33, 34, 35, 36, 37, 38, 39, 40, 41, 42, 43, 44, 45, 46, 47, 48, 49, 50, 51, 52, 53, 54, 55, 56, 57, 58, 59, 60, 61] (by decide +kernel) (by decide +kernel)
set_option maxRecDepth 20000 in
theorem gX4_wrong_X4_drop : GoodIn wsX4_wrong (wsV RX4 149 RX4 yX4_drop wsX4_drop) := goodIn_app (goodIn_of _ (by decide +kernel)) ggX4_wrong_X4_drop
theorem dX4_wrong_0 : decode cX4_wrong 0 = .ok (.aload_n 0, 1) := by decide +kernel
theorem dX4_wrong_1 : decode cX4_wrong 1 = .ok (.aload_n 0, 1) := by decide +kernel
theorem dX4_wrong_2 : decode cX4_wrong 2 = .ok (.iload_n 1, 1) := by decide +kernel
theorem dX4_wrong_3 : decode cX4_wrong 3 = .ok (.invokevirtual 146, 3) := by decide +kernel
theorem dX4_wrong_6 : decode cX4_wrong 6 = .ok (.ifCond .ne 7, 3) := by decide +kernel
theorem dX4_wrong_9 : decode cX4_wrong 9 = .ok (.iconst 1, 1) := by decide +kernel
theorem dX4_wrong_10 : decode cX4_wrong 10 = .ok (.goto 4, 3) := by decide +kernel
theorem dX4_wrong_13 : decode cX4_wrong 13 = .ok (.iconst 0, 1) := by decide +kernel
theorem dX4_wrong_14 : decode cX4_wrong 14 = .ok (.aload_n 0, 1) := by decide +kernel
theorem dX4_wrong_15 : decode cX4_wrong 15 = .ok (.getfield 47, 3) := by decide +kernel
theorem dX4_wrong_18 : decode cX4_wrong 18 = .ok (.aload_n 0, 1) := by decide +kernel
theorem dX4_wrong_19 : decode cX4_wrong 19 = .ok (.iload_n 1, 1) := by decide +kernel
theorem dX4_wrong_20 : decode cX4_wrong 20 = .ok (.invokevirtual 146, 3) := by decide +kernel
theorem dX4_wrong_23 : decode cX4_wrong 23 = .ok (.ifCond .eq 7, 3) := by decide +kernel
theorem dX4_wrong_26 : decode cX4_wrong 26 = .ok (.iload_n 1, 1) := by decide +kernel
theorem dX4_wrong_27 : decode cX4_wrong 27 = .ok (.goto 4, 3) := by decide +kernel
theorem dX4_wrong_30 : decode cX4_wrong 30 = .ok (.iconst 0, 1) := by decide +kernel
theorem dX4_wrong_31 : decode cX4_wrong 31 = .ok (.baload, 1) := by decide +kernel
theorem dX4_wrong_32 : decode cX4_wrong 32 = .ok (.ifCond .ne 7, 3) := by decide +kernel
theorem dX4_wrong_35 : decode cX4_wrong 35 = .ok (.iconst 1, 1) := by decide +kernel
theorem dX4_wrong_36 : decode cX4_wrong 36 = .ok (.goto 4, 3) := by decide +kernel
theorem dX4_wrong_39 : decode cX4_wrong 39 = .ok (.iconst 0, 1) := by decide +kernel
theorem dX4_wrong_40 : decode cX4_wrong 40 = .ok (.iconst 0, 1) := by decide +kernel
theorem dX4_wrong_41 : decode cX4_wrong 41 = .ok (.invokevirtual 96, 3) := by decide +kernel
theorem dX4_wrong_44 : decode cX4_wrong 44 = .ok (.ifCond .eq 5, 3) := by decide +kernel
theorem dX4_wrong_47 : decode cX4_wrong 47 = .ok (.iconst 0, 1) := by decide +kernel
theorem dX4_wrong_48 : decode cX4_wrong 48 = .ok (.ireturn, 1) := by decide +kernel
theorem dX4_wrong_49 : decode cX4_wrong 49 = .ok (.iconst 0, 1) := by decide +kernel
theorem dX4_wrong_50 : decode cX4_wrong 50 = .ok (.istore_n 2, 1) := by decide +kernel
theorem dX4_wrong_51 : decode cX4_wrong 51 = .ok (.aload_n 0, 1) := by decide +kernel
theorem dX4_wrong_52 : decode cX4_wrong 52 = .ok (.getfield 127, 3) := by decide +kernel
theorem dX4_wrong_55 : decode cX4_wrong 55 = .ok (.aload_n 0, 1) := by decide +kernel
theorem dX4_wrong_56 : decode cX4_wrong 56 = .ok (.getfield 86, 3) := by decide +kernel
theorem dX4_wrong_59 : decode cX4_wrong 59 = .ok (.iadd, 1) := by decide +kernel
theorem dX4_wrong_60 : decode cX4_wrong 60 = .ok (.aload_n 0, 1) := by decide +kernel
theorem dX4_wrong_61 : decode cX4_wrong 61 = .ok (.getfield 50, 3) := by decide +kernel
theorem dX4_wrong_64 : decode cX4_wrong 64 = .ok (.iload_n 1, 1) := by decide +kernel
theorem dX4_wrong_65 : decode cX4_wrong 65 = .ok (.iaload, 1) := by decide +kernel
theorem dX4_wrong_66 : decode cX4_wrong 66 = .ok (.if_icmp .le 70, 3) := by decide +kernel
theorem dX4_wrong_69 : decode cX4_wrong 69 = .ok (.aload_n 0, 1) := by decide +kernel
theorem dX4_wrong_70 : decode cX4_wrong 70 = .ok (.dup, 1) := by decide +kernel
theorem dX4_wrong_71 : decode cX4_wrong 71 = .ok (.getfield 86, 3) := by decide +kernel
theorem dX4_wrong_74 : decode cX4_wrong 74 = .ok (.iconst 1, 1) := by decide +kernel
theorem dX4_wrong_75 : decode cX4_wrong 75 = .ok (.isub, 1) := by decide +kernel
theorem dX4_wrong_76 : decode cX4_wrong 76 = .ok (.putfield 86, 3) := by decide +kernel
theorem dX4_wrong_79 : decode cX4_wrong 79 = .ok (.iinc 2 1, 3) := by decide +kernel
theorem dX4_wrong_82 : decode cX4_wrong 82 = .ok (.aload_n 0, 1) := by decide +kernel
theorem dX4_wrong_83 : decode cX4_wrong 83 = .ok (.getfield 38, 3) := by decide +kernel
theorem dX4_wrong_86 : decode cX4_wrong 86 = .ok (.aload_n 0, 1) := by decide +kernel
theorem dX4_wrong_87 : decode cX4_wrong 87 = .ok (.getfield 86, 3) := by decide +kernel
theorem dX4_wrong_90 : decode cX4_wrong 90 = .ok (.iaload, 1) := by decide +kernel
theorem dX4_wrong_91 : decode cX4_wrong 91 = .ok (.ifCond .ge 6, 3) := by decide +kernel
theorem dX4_wrong_94 : decode cX4_wrong 94 = .ok (.goto (-43), 3) := by decide +kernel
theorem dX4_wrong_97 : decode cX4_wrong 97 = .ok (.aload_n 0, 1) := by decide +kernel
theorem dX4_wrong_98 : decode cX4_wrong 98 = .ok (.getfield 7, 3) := by decide +kernel
theorem dX4_wrong_101 : decode cX4_wrong 101 = .ok (.aload_n 0, 1) := by decide +kernel
theorem dX4_wrong_102 : decode cX4_wrong 102 = .ok (.getfield 38, 3) := by decide +kernel
theorem dX4_wrong_105 : decode cX4_wrong 105 = .ok (.aload_n 0, 1) := by decide +kernel
theorem dX4_wrong_106 : decode cX4_wrong 106 = .ok (.getfield 86, 3) := by decide +kernel
theorem dX4_wrong_109 : decode cX4_wrong 109 = .ok (.iaload, 1) := by decide +kernel
theorem dX4_wrong_110 : decode cX4_wrong 110 = .ok (.aload_n 0, 1) := by decide +kernel
theorem dX4_wrong_111 : decode cX4_wrong 111 = .ok (.getfield 35, 3) := by decide +kernel
theorem dX4_wrong_114 : decode cX4_wrong 114 = .ok (.aload_n 0, 1) := by decide +kernel
theorem dX4_wrong_115 : decode cX4_wrong 115 = .ok (.getfield 86, 3) := by decide +kernel
theorem dX4_wrong_118 : decode cX4_wrong 118 = .ok (.iaload, 1) := by decide +kernel
theorem dX4_wrong_119 : decode cX4_wrong 119 = .ok (.iastore, 1) := by decide +kernel
theorem dX4_wrong_120 : decode cX4_wrong 120 = .ok (.aload_n 0, 1) := by decide +kernel
theorem dX4_wrong_121 : decode cX4_wrong 121 = .ok (.aload_n 0, 1) := by decide +kernel
theorem dX4_wrong_122 : decode cX4_wrong 122 = .ok (.getfield 32, 3) := by decide +kernel
theorem dX4_wrong_125 : decode cX4_wrong 125 = .ok (.aload_n 0, 1) := by decide +kernel
theorem dX4_wrong_126 : decode cX4_wrong 126 = .ok (.getfield 86, 3) := by decide +kernel
theorem dX4_wrong_129 : decode cX4_wrong 129 = .ok (.iaload, 1) := by decide +kernel
theorem dX4_wrong_130 : decode cX4_wrong 130 = .ok (.invokevirtual 133, 3) := by decide +kernel
theorem dX4_wrong_133 : decode cX4_wrong 133 = .ok (.goto (-82), 3) := by decide +kernel
theorem dX4_wrong_136 : decode cX4_wrong 136 = .ok (.aload_n 0, 1) := by decide +kernel
theorem dX4_wrong_137 : decode cX4_wrong 137 = .ok (.dup, 1) := by decide +kernel
theorem dX4_wrong_138 : decode cX4_wrong 138 = .ok (.getfield 152, 3) := by decide +kernel
theorem dX4_wrong_141 : decode cX4_wrong 141 = .ok (.iload_n 2, 1) := by decide +kernel
theorem dX4_wrong_142 : decode cX4_wrong 142 = .ok (.iadd, 1) := by decide +kernel
theorem dX4_wrong_143 : decode cX4_wrong 143 = .ok (.putfield 152, 3) := by decide +kernel
theorem dX4_wrong_146 : decode cX4_wrong 146 = .ok (.iconst 0, 1) := by decide +kernel
theorem dX4_wrong_147 : decode cX4_wrong 147 = .ok (.istore_n 3, 1) := by decide +kernel
theorem dX4_wrong_148 : decode cX4_wrong 148 = .ok (.iload_n 3, 1) := by decide +kernel
theorem dX4_wrong_149 : decode cX4_wrong 149 = .ok (.bipush 8, 2) := by decide +kernel
theorem dX4_wrong_151 : decode cX4_wrong 151 = .ok (.if_icmp .ge 43, 3) := by decide +kernel
theorem dX4_wrong_154 : decode cX4_wrong 154 = .ok (.aload_n 0, 1) := by decide +kernel
theorem dX4_wrong_155 : decode cX4_wrong 155 = .ok (.getfield 47, 3) := by decide +kernel
theorem dX4_wrong_158 : decode cX4_wrong 158 = .ok (.iload_n 3, 1) := by decide +kernel
theorem dX4_wrong_159 : decode cX4_wrong 159 = .ok (.baload, 1) := by decide +kernel
theorem dX4_wrong_160 : decode cX4_wrong 160 = .ok (.ifCond .eq 28, 3) := by decide +kernel
theorem dX4_wrong_163 : decode cX4_wrong 163 = .ok (.iload_n 3, 1) := by decide +kernel
theorem dX4_wrong_164 : decode cX4_wrong 164 = .ok (.iload_n 1, 1) := by decide +kernel
theorem dX4_wrong_165 : decode cX4_wrong 165 = .ok (.if_icmp .eq 23, 3) := by decide +kernel
theorem dX4_wrong_168 : decode cX4_wrong 168 = .ok (.aload_n 0, 1) := by decide +kernel
theorem dX4_wrong_169 : decode cX4_wrong 169 = .ok (.getfield 53, 3) := by decide +kernel
theorem dX4_wrong_172 : decode cX4_wrong 172 = .ok (.iload_n 3, 1) := by decide +kernel
theorem dX4_wrong_173 : decode cX4_wrong 173 = .ok (.iaload, 1) := by decide +kernel
theorem dX4_wrong_174 : decode cX4_wrong 174 = .ok (.aload_n 0, 1) := by decide +kernel
theorem dX4_wrong_175 : decode cX4_wrong 175 = .ok (.getfield 53, 3) := by decide +kernel
theorem dX4_wrong_178 : decode cX4_wrong 178 = .ok (.iload_n 1, 1) := by decide +kernel
theorem dX4_wrong_179 : decode cX4_wrong 179 = .ok (.iaload, 1) := by decide +kernel
theorem dX4_wrong_180 : decode cX4_wrong 180 = .ok (.if_icmp .le 8, 3) := by decide +kernel
theorem dX4_wrong_183 : decode cX4_wrong 183 = .ok (.aload_n 0, 1) := by decide +kernel
theorem dX4_wrong_184 : decode cX4_wrong 184 = .ok (.iload_n 3, 1) := by decide +kernel
theorem dX4_wrong_185 : decode cX4_wrong 185 = .ok (.invokevirtual 149, 3) := by decide +kernel
theorem dX4_wrong_188 : decode cX4_wrong 188 = .ok (.iinc 3 1, 3) := by decide +kernel
theorem dX4_wrong_191 : decode cX4_wrong 191 = .ok (.goto (-43), 3) := by decide +kernel
theorem dX4_wrong_194 : decode cX4_wrong 194 = .ok (.aload_n 0, 1) := by decide +kernel
theorem dX4_wrong_195 : decode cX4_wrong 195 = .ok (.iload_n 1, 1) := by decide +kernel
theorem dX4_wrong_196 : decode cX4_wrong 196 = .ok (.invokevirtual 149, 3) := by decide +kernel
theorem dX4_wrong_199 : decode cX4_wrong 199 = .ok (.iload_n 2, 1) := by decide +kernel
theorem dX4_wrong_200 : decode cX4_wrong 200 = .ok (.ireturn, 1) := by decide +kernel
set_option maxRecDepth 20000 in
theorem ggX4_name_X4_isRegister : GoodIn wsX4_name wsX4_isRegister := goodIn_r _ [6, 7, 13, 14, 15, 16, 17, 18, 19, 20, 21, 22, 23, 24, 25, 26, 27, 28, 29, 30, 31, 32, 33, 34, 35, 36, 37, 38, 39, 40, 41] (by decide +kernel) (by decide +kernel)
set_option maxRecDepth 20000 in
theorem gX4_name_X4_isRegister : GoodIn wsX4_name (wsV RX4 93 RX4 yX4_isRegister wsX4_isRegister) := goodIn_app (goodIn_of _ (by decide +kernel)) ggX4_name_X4_isRegister
set_option maxRecDepth 20000 in
theorem ggX4_name_X4_throwing : GoodIn wsX4_name wsX4_throwing := goodIn_r _ [11, 12, 13, 14, 15, 16, 17, 18, 19, 20, 21, 22, 23, 24, 25, 26, 27, 28, 29, 30, 31, 32, 33, 34, 35, 36, 37, 38, 39, 40, 41] (by decide +kernel) (by decide +kernel)
set_option maxRecDepth 20000 in
theorem gX4_name_X4_throwing : GoodIn wsX4_name (wsV RX4 96 RX4 yX4_throwing wsX4_throwing) := goodIn_app (goodIn_of _ (by decide +kernel)) ggX4_name_X4_throwing
theorem dX4_name_0 : decode cX4_name 0 = .ok (.aload_n 0, 1) := by decide +kernel
theorem dX4_name_1 : decode cX4_name 1 = .ok (.aload_n 0, 1) := by decide +kernel
theorem dX4_name_2 : decode cX4_name 2 = .ok (.iload_n 1, 1) := by decide +kernel
theorem dX4_name_3 : decode cX4_name 3 = .ok (.invokevirtual 93, 3) := by decide +kernel
theorem dX4_name_6 : decode cX4_name 6 = .ok (.ifCond .ne 7, 3) := by decide +kernel
theorem dX4_name_9 : decode cX4_name 9 = .ok (.iconst 1, 1) := by decide +kernel
theorem dX4_name_10 : decode cX4_name 10 = .ok (.goto 4, 3) := by decide +kernel
theorem dX4_name_13 : decode cX4_name 13 = .ok (.iconst 0, 1) := by decide +kernel
theorem dX4_name_14 : decode cX4_name 14 = .ok (.iconst 0, 1) := by decide +kernel
theorem dX4_name_15 : decode cX4_name 15 = .ok (.iconst 0, 1) := by decide +kernel
theorem dX4_name_16 : decode cX4_name 16 = .ok (.invokevirtual 96, 3) := by decide +kernel
theorem dX4_name_19 : decode cX4_name 19 = .ok (.ifCond .eq 7, 3) := by decide +kernel
theorem dX4_name_22 : decode cX4_name 22 = .ok (.iconst 0, 1) := by decide +kernel
theorem dX4_name_23 : decode cX4_name 23 = .ok (.goto 9, 3) := by decide +kernel
theorem dX4_name_26 : decode cX4_name 26 = .ok (.aload_n 0, 1) := by decide +kernel
theorem dX4_name_27 : decode cX4_name 27 = .ok (.getfield 7, 3) := by decide +kernel
theorem dX4_name_30 : decode cX4_name 30 = .ok (.iload_n 1, 1) := by decide +kernel
theorem dX4_name_31 : decode cX4_name 31 = .ok (.iaload, 1) := by decide +kernel
theorem dX4_name_32 : decode cX4_name 32 = .ok (.ireturn, 1) := by decide +kernel
set_option maxRecDepth 20000 in
theorem ggX4_sure_X4_isRegister : GoodIn wsX4_sure wsX4_isRegister := goodIn_r _ [6, 7, 13, 14, 15, 16, 17, 18, 19, 20, 21, 22, 23, 24, 25, 26, 27, 28, 29, 30, 31, 32, 33, 34, 35, 36, 37, 38, 39, 40, 41] (by decide +kernel) (by decide +kernel)
set_option maxRecDepth 20000 in
theorem gX4_sure_X4_isRegister : GoodIn wsX4_sure (wsV RX4 93 RX4 yX4_isRegister wsX4_isRegister) := goodIn_app (goodIn_of _ (by decide +kernel)) ggX4_sure_X4_isRegister
set_option maxRecDepth 20000 in
theorem ggX4_sure_X4_throwing : GoodIn wsX4_sure wsX4_throwing := goodIn_r _ [11, 12, 13, 14, 15, 16, 17, 18, 19, 20, 21, 22, 23, 24, 25, 26, 27, 28, 29, 30, 31, 32, 33, 34, 35, 36, 37, 38, 39, 40, 41] (by decide +kernel) (by decide +kernel)
set_option maxRecDepth 20000 in
theorem gX4_sure_X4_throwing : GoodIn wsX4_sure (wsV RX4 96 RX4 yX4_throwing wsX4_throwing) := goodIn_app (goodIn_of _ (by decide +kernel)) ggX4_sure_X4_throwing
theorem dX4_sure_0 : decode cX4_sure 0 = .ok (.aload_n 0, 1) := by decide +kernel
theorem dX4_sure_1 : decode cX4_sure 1 = .ok (.aload_n 0, 1) := by decide +kernel
theorem dX4_sure_2 : decode cX4_sure 2 = .ok (.iload_n 1, 1) := by decide +kernel
theorem dX4_sure_3 : decode cX4_sure 3 = .ok (.invokevirtual 93, 3) := by decide +kernel
theorem dX4_sure_6 : decode cX4_sure 6 = .ok (.ifCond .ne 7, 3) := by decide +kernel
theorem dX4_sure_9 : decode cX4_sure 9 = .ok (.iconst 1, 1) := by decide +kernel
theorem dX4_sure_10 : decode cX4_sure 10 = .ok (.goto 4, 3) := by decide +kernel
theorem dX4_sure_13 : decode cX4_sure 13 = .ok (.iconst 0, 1) := by decide +kernel
theorem dX4_sure_14 : decode cX4_sure 14 = .ok (.iconst 0, 1) := by decide +kernel
theorem dX4_sure_15 : decode cX4_sure 15 = .ok (.iconst 0, 1) := by decide +kernel
theorem dX4_sure_16 : decode cX4_sure 16 = .ok (.invokevirtual 96, 3) := by decide +kernel
theorem dX4_sure_19 : decode cX4_sure 19 = .ok (.ifCond .eq 7, 3) := by decide +kernel
theorem dX4_sure_22 : decode cX4_sure 22 = .ok (.iconst 0, 1) := by decide +kernel
theorem dX4_sure_23 : decode cX4_sure 23 = .ok (.goto 9, 3) := by decide +kernel
theorem dX4_sure_26 : decode cX4_sure 26 = .ok (.aload_n 0, 1) := by decide +kernel
theorem dX4_sure_27 : decode cX4_sure 27 = .ok (.getfield 13, 3) := by decide +kernel
theorem dX4_sure_30 : decode cX4_sure 30 = .ok (.iload_n 1, 1) := by decide +kernel
theorem dX4_sure_31 : decode cX4_sure 31 = .ok (.iaload, 1) := by decide +kernel
theorem dX4_sure_32 : decode cX4_sure 32 = .ok (.ireturn, 1) := by decide +kernel
set_option maxRecDepth 20000 in
theorem ggX4_shares_X4_throwing : GoodIn wsX4_shares wsX4_throwing := goodIn_r _ [7, 8, 9, 10, 11, 12, 13, 14, 15, 16, 17, 18, 19, 20, 21, 22, 23, 24, 25, 26, 27, 28, 29, 30, 31, 32, 33, 34, 35, 36, 37] (by decide +kernel) (by decide +kernel)
set_option maxRecDepth 20000 in
theorem gX4_shares_X4_throwing : GoodIn wsX4_shares (wsV RX4 96 RX4 yX4_throwing wsX4_throwing) := goodIn_app (goodIn_of _ (by decide +kernel)) ggX4_shares_X4_throwing
theorem dX4_shares_0 : decode cX4_shares 0 = .ok (.aload_n 0, 1) := by decide +kernel
theorem dX4_shares_1 : decode cX4_shares 1 = .ok (.iload_n 1, 1) := by decide +kernel
theorem dX4_shares_2 : decode cX4_shares 2 = .ok (.ifCond .lt 11, 3) := by decide +kernel
theorem dX4_shares_5 : decode cX4_shares 5 = .ok (.iload_n 1, 1) := by decide +kernel
theorem dX4_shares_6 : decode cX4_shares 6 = .ok (.aload_n 0, 1) := by decide +kernel
theorem dX4_shares_7 : decode cX4_shares 7 = .ok (.getfield 67, 3) := by decide +kernel
theorem dX4_shares_10 : decode cX4_shares 10 = .ok (.if_icmp .lt 7, 3) := by decide +kernel
theorem dX4_shares_13 : decode cX4_shares 13 = .ok (.iconst 1, 1) := by decide +kernel
theorem dX4_shares_14 : decode cX4_shares 14 = .ok (.goto 4, 3) := by decide +kernel
theorem dX4_shares_17 : decode cX4_shares 17 = .ok (.iconst 0, 1) := by decide +kernel
theorem dX4_shares_18 : decode cX4_shares 18 = .ok (.iconst 0, 1) := by decide +kernel
theorem dX4_shares_19 : decode cX4_shares 19 = .ok (.iconst 0, 1) := by decide +kernel
theorem dX4_shares_20 : decode cX4_shares 20 = .ok (.invokevirtual 96, 3) := by decide +kernel
theorem dX4_shares_23 : decode cX4_shares 23 = .ok (.ifCond .eq 7, 3) := by decide +kernel
theorem dX4_shares_26 : decode cX4_shares 26 = .ok (.iconst 0, 1) := by decide +kernel
theorem dX4_shares_27 : decode cX4_shares 27 = .ok (.goto 9, 3) := by decide +kernel
theorem dX4_shares_30 : decode cX4_shares 30 = .ok (.aload_n 0, 1) := by decide +kernel
theorem dX4_shares_31 : decode cX4_shares 31 = .ok (.getfield 16, 3) := by decide +kernel
theorem dX4_shares_34 : decode cX4_shares 34 = .ok (.iload_n 1, 1) := by decide +kernel
theorem dX4_shares_35 : decode cX4_shares 35 = .ok (.iaload, 1) := by decide +kernel
theorem dX4_shares_36 : decode cX4_shares 36 = .ok (.ireturn, 1) := by decide +kernel
set_option maxRecDepth 20000 in
theorem ggX4_queue_X4_throwing : GoodIn wsX4_queue wsX4_throwing := goodIn_r _ [7, 8, 9, 10, 11, 12, 13, 14, 15, 16, 17, 18, 19, 20, 21, 22, 23, 24, 25, 26, 27, 28, 29, 30, 31, 32, 33, 34, 35, 36, 37] (by decide +kernel) (by decide +kernel)
set_option maxRecDepth 20000 in
theorem gX4_queue_X4_throwing : GoodIn wsX4_queue (wsV RX4 96 RX4 yX4_throwing wsX4_throwing) := goodIn_app (goodIn_of _ (by decide +kernel)) ggX4_queue_X4_throwing
theorem dX4_queue_0 : decode cX4_queue 0 = .ok (.aload_n 0, 1) := by decide +kernel
theorem dX4_queue_1 : decode cX4_queue 1 = .ok (.iload_n 1, 1) := by decide +kernel
theorem dX4_queue_2 : decode cX4_queue 2 = .ok (.ifCond .lt 11, 3) := by decide +kernel
theorem dX4_queue_5 : decode cX4_queue 5 = .ok (.iload_n 1, 1) := by decide +kernel
theorem dX4_queue_6 : decode cX4_queue 6 = .ok (.aload_n 0, 1) := by decide +kernel
theorem dX4_queue_7 : decode cX4_queue 7 = .ok (.getfield 73, 3) := by decide +kernel
theorem dX4_queue_10 : decode cX4_queue 10 = .ok (.if_icmp .lt 7, 3) := by decide +kernel
theorem dX4_queue_13 : decode cX4_queue 13 = .ok (.iconst 1, 1) := by decide +kernel
theorem dX4_queue_14 : decode cX4_queue 14 = .ok (.goto 4, 3) := by decide +kernel
theorem dX4_queue_17 : decode cX4_queue 17 = .ok (.iconst 0, 1) := by decide +kernel
theorem dX4_queue_18 : decode cX4_queue 18 = .ok (.iconst 0, 1) := by decide +kernel
theorem dX4_queue_19 : decode cX4_queue 19 = .ok (.iconst 0, 1) := by decide +kernel
theorem dX4_queue_20 : decode cX4_queue 20 = .ok (.invokevirtual 96, 3) := by decide +kernel
theorem dX4_queue_23 : decode cX4_queue 23 = .ok (.ifCond .eq 7, 3) := by decide +kernel
theorem dX4_queue_26 : decode cX4_queue 26 = .ok (.iconst 0, 1) := by decide +kernel
theorem dX4_queue_27 : decode cX4_queue 27 = .ok (.goto 9, 3) := by decide +kernel
theorem dX4_queue_30 : decode cX4_queue 30 = .ok (.aload_n 0, 1) := by decide +kernel
theorem dX4_queue_31 : decode cX4_queue 31 = .ok (.getfield 23, 3) := by decide +kernel
theorem dX4_queue_34 : decode cX4_queue 34 = .ok (.iload_n 1, 1) := by decide +kernel
theorem dX4_queue_35 : decode cX4_queue 35 = .ok (.iaload, 1) := by decide +kernel
theorem dX4_queue_36 : decode cX4_queue 36 = .ok (.ireturn, 1) := by decide +kernel
set_option maxRecDepth 20000 in
theorem ggX4_row_X4_isPlace : GoodIn wsX4_row wsX4_isPlace := goodIn_r _ [12, 13, 25, 26, 27, 28, 29, 30, 31, 32, 33, 34, 35, 36, 37, 38, 39, 40, 41, 42, 43, 44, 45, 46, 47, 48, 49, 50, 51, 52, 53] (by decide +kernel) (by decide +kernel)
set_option maxRecDepth 20000 in
theorem gX4_row_X4_isPlace : GoodIn wsX4_row (wsV RX4 114 RX4 yX4_isPlace wsX4_isPlace) := goodIn_app (goodIn_of _ (by decide +kernel)) ggX4_row_X4_isPlace
set_option maxRecDepth 20000 in
theorem ggX4_row_X4_at : GoodIn wsX4_row wsX4_at := goodIn_r _ [17, 18, 13, 19, 25, 26, 27, 28, 29, 30, 31, 32, 33, 34, 35, 36, 37, 38, 39, 40, 41, 42, 43, 44, 45, 46, 47, 48, 49, 50, 51, 52, 53] (by decide +kernel) (by decide +kernel)
set_option maxRecDepth 20000 in
theorem gX4_row_X4_at : GoodIn wsX4_row (wsV RX4 117 RX4 yX4_at wsX4_at) := goodIn_app (goodIn_of _ (by decide +kernel)) ggX4_row_X4_at
set_option maxRecDepth 20000 in
theorem ggX4_row_X4_throwing : GoodIn wsX4_row wsX4_throwing := goodIn_r _ [23, 24, 25, 26, 27, 28, 29, 30, 31, 32, 33, 34, 35, 36, 37, 38, 39, 40, 41, 42, 43, 44, 45, 46, 47, 48, 49, 50, 51, 52, 53] (by decide +kernel) (by decide +kernel)
set_option maxRecDepth 20000 in
theorem gX4_row_X4_throwing : GoodIn wsX4_row (wsV RX4 96 RX4 yX4_throwing wsX4_throwing) := goodIn_app (goodIn_of _ (by decide +kernel)) ggX4_row_X4_throwing
theorem dX4_row_0 : decode cX4_row 0 = .ok (.aload_n 0, 1) := by decide +kernel
theorem dX4_row_1 : decode cX4_row 1 = .ok (.iload_n 1, 1) := by decide +kernel
theorem dX4_row_2 : decode cX4_row 2 = .ok (.invokevirtual 114, 3) := by decide +kernel
theorem dX4_row_5 : decode cX4_row 5 = .ok (.ifCond .eq 11, 3) := by decide +kernel
theorem dX4_row_8 : decode cX4_row 8 = .ok (.aload_n 0, 1) := by decide +kernel
theorem dX4_row_9 : decode cX4_row 9 = .ok (.iload_n 1, 1) := by decide +kernel
theorem dX4_row_10 : decode cX4_row 10 = .ok (.invokevirtual 117, 3) := by decide +kernel
theorem dX4_row_13 : decode cX4_row 13 = .ok (.goto 4, 3) := by decide +kernel
theorem dX4_row_16 : decode cX4_row 16 = .ok (.iconst (-1), 1) := by decide +kernel
theorem dX4_row_17 : decode cX4_row 17 = .ok (.istore_n 3, 1) := by decide +kernel
theorem dX4_row_18 : decode cX4_row 18 = .ok (.aload_n 0, 1) := by decide +kernel
theorem dX4_row_19 : decode cX4_row 19 = .ok (.aload_n 0, 1) := by decide +kernel
theorem dX4_row_20 : decode cX4_row 20 = .ok (.iload_n 1, 1) := by decide +kernel
theorem dX4_row_21 : decode cX4_row 21 = .ok (.invokevirtual 114, 3) := by decide +kernel
theorem dX4_row_24 : decode cX4_row 24 = .ok (.ifCond .ne 7, 3) := by decide +kernel
theorem dX4_row_27 : decode cX4_row 27 = .ok (.iconst 1, 1) := by decide +kernel
theorem dX4_row_28 : decode cX4_row 28 = .ok (.goto 4, 3) := by decide +kernel
theorem dX4_row_31 : decode cX4_row 31 = .ok (.iconst 0, 1) := by decide +kernel
theorem dX4_row_32 : decode cX4_row 32 = .ok (.iload_n 3, 1) := by decide +kernel
theorem dX4_row_33 : decode cX4_row 33 = .ok (.ifCond .ge 7, 3) := by decide +kernel
theorem dX4_row_36 : decode cX4_row 36 = .ok (.iconst 1, 1) := by decide +kernel
theorem dX4_row_37 : decode cX4_row 37 = .ok (.goto 4, 3) := by decide +kernel
theorem dX4_row_40 : decode cX4_row 40 = .ok (.iconst 0, 1) := by decide +kernel
theorem dX4_row_41 : decode cX4_row 41 = .ok (.iload_n 2, 1) := by decide +kernel
theorem dX4_row_42 : decode cX4_row 42 = .ok (.ifCond .lt 9, 3) := by decide +kernel
theorem dX4_row_45 : decode cX4_row 45 = .ok (.iload_n 2, 1) := by decide +kernel
theorem dX4_row_46 : decode cX4_row 46 = .ok (.bipush 6, 2) := by decide +kernel
theorem dX4_row_48 : decode cX4_row 48 = .ok (.if_icmp .le 7, 3) := by decide +kernel
theorem dX4_row_51 : decode cX4_row 51 = .ok (.iconst 1, 1) := by decide +kernel
theorem dX4_row_52 : decode cX4_row 52 = .ok (.goto 4, 3) := by decide +kernel
theorem dX4_row_55 : decode cX4_row 55 = .ok (.iconst 0, 1) := by decide +kernel
theorem dX4_row_56 : decode cX4_row 56 = .ok (.invokevirtual 96, 3) := by decide +kernel
theorem dX4_row_59 : decode cX4_row 59 = .ok (.ifCond .eq 5, 3) := by decide +kernel
theorem dX4_row_62 : decode cX4_row 62 = .ok (.iconst 0, 1) := by decide +kernel
theorem dX4_row_63 : decode cX4_row 63 = .ok (.ireturn, 1) := by decide +kernel
theorem dX4_row_64 : decode cX4_row 64 = .ok (.iload_n 2, 1) := by decide +kernel
theorem dX4_row_65 : decode cX4_row 65 = .ok (.tableswitch 81 0 5 #[39, 46, 53, 60, 67, 74], 39) := by decide +kernel
theorem dX4_row_104 : decode cX4_row 104 = .ok (.aload_n 0, 1) := by decide +kernel
theorem dX4_row_105 : decode cX4_row 105 = .ok (.getfield 26, 3) := by decide +kernel
theorem dX4_row_108 : decode cX4_row 108 = .ok (.iload_n 3, 1) := by decide +kernel
theorem dX4_row_109 : decode cX4_row 109 = .ok (.iaload, 1) := by decide +kernel
theorem dX4_row_110 : decode cX4_row 110 = .ok (.ireturn, 1) := by decide +kernel
theorem dX4_row_111 : decode cX4_row 111 = .ok (.aload_n 0, 1) := by decide +kernel
theorem dX4_row_112 : decode cX4_row 112 = .ok (.getfield 29, 3) := by decide +kernel
theorem dX4_row_115 : decode cX4_row 115 = .ok (.iload_n 3, 1) := by decide +kernel
theorem dX4_row_116 : decode cX4_row 116 = .ok (.iaload, 1) := by decide +kernel
theorem dX4_row_117 : decode cX4_row 117 = .ok (.ireturn, 1) := by decide +kernel
theorem dX4_row_118 : decode cX4_row 118 = .ok (.aload_n 0, 1) := by decide +kernel
theorem dX4_row_119 : decode cX4_row 119 = .ok (.getfield 32, 3) := by decide +kernel
theorem dX4_row_122 : decode cX4_row 122 = .ok (.iload_n 3, 1) := by decide +kernel
theorem dX4_row_123 : decode cX4_row 123 = .ok (.iaload, 1) := by decide +kernel
theorem dX4_row_124 : decode cX4_row 124 = .ok (.ireturn, 1) := by decide +kernel
theorem dX4_row_125 : decode cX4_row 125 = .ok (.aload_n 0, 1) := by decide +kernel
theorem dX4_row_126 : decode cX4_row 126 = .ok (.getfield 35, 3) := by decide +kernel
theorem dX4_row_129 : decode cX4_row 129 = .ok (.iload_n 3, 1) := by decide +kernel
theorem dX4_row_130 : decode cX4_row 130 = .ok (.iaload, 1) := by decide +kernel
theorem dX4_row_131 : decode cX4_row 131 = .ok (.ireturn, 1) := by decide +kernel
theorem dX4_row_132 : decode cX4_row 132 = .ok (.aload_n 0, 1) := by decide +kernel
theorem dX4_row_133 : decode cX4_row 133 = .ok (.getfield 38, 3) := by decide +kernel
theorem dX4_row_136 : decode cX4_row 136 = .ok (.iload_n 3, 1) := by decide +kernel
theorem dX4_row_137 : decode cX4_row 137 = .ok (.iaload, 1) := by decide +kernel
theorem dX4_row_138 : decode cX4_row 138 = .ok (.ireturn, 1) := by decide +kernel
theorem dX4_row_139 : decode cX4_row 139 = .ok (.aload_n 0, 1) := by decide +kernel
theorem dX4_row_140 : decode cX4_row 140 = .ok (.getfield 41, 3) := by decide +kernel
theorem dX4_row_143 : decode cX4_row 143 = .ok (.iload_n 3, 1) := by decide +kernel
theorem dX4_row_144 : decode cX4_row 144 = .ok (.iaload, 1) := by decide +kernel
theorem dX4_row_145 : decode cX4_row 145 = .ok (.ireturn, 1) := by decide +kernel
theorem dX4_row_146 : decode cX4_row 146 = .ok (.aload_n 0, 1) := by decide +kernel
theorem dX4_row_147 : decode cX4_row 147 = .ok (.getfield 44, 3) := by decide +kernel
theorem dX4_row_150 : decode cX4_row 150 = .ok (.iload_n 3, 1) := by decide +kernel
theorem dX4_row_151 : decode cX4_row 151 = .ok (.iaload, 1) := by decide +kernel
theorem dX4_row_152 : decode cX4_row 152 = .ok (.ireturn, 1) := by decide +kernel
theorem dX4_count_0 : decode cX4_count 0 = .ok (.aload_n 0, 1) := by decide +kernel
theorem dX4_count_1 : decode cX4_count 1 = .ok (.iconst 0, 1) := by decide +kernel
theorem dX4_count_2 : decode cX4_count 2 = .ok (.putfield 76, 3) := by decide +kernel
theorem dX4_count_5 : decode cX4_count 5 = .ok (.iload_n 1, 1) := by decide +kernel
theorem dX4_count_6 : decode cX4_count 6 = .ok (.tableswitch 124 0 10 #[58, 63, 68, 73, 78, 83, 88, 93, 98, 114, 119], 58) := by decide +kernel
theorem dX4_count_64 : decode cX4_count 64 = .ok (.aload_n 0, 1) := by decide +kernel
theorem dX4_count_65 : decode cX4_count 65 = .ok (.getfield 63, 3) := by decide +kernel
theorem dX4_count_68 : decode cX4_count 68 = .ok (.ireturn, 1) := by decide +kernel
theorem dX4_count_69 : decode cX4_count 69 = .ok (.aload_n 0, 1) := by decide +kernel
theorem dX4_count_70 : decode cX4_count 70 = .ok (.getfield 67, 3) := by decide +kernel
theorem dX4_count_73 : decode cX4_count 73 = .ok (.ireturn, 1) := by decide +kernel
theorem dX4_count_74 : decode cX4_count 74 = .ok (.aload_n 0, 1) := by decide +kernel
theorem dX4_count_75 : decode cX4_count 75 = .ok (.getfield 70, 3) := by decide +kernel
theorem dX4_count_78 : decode cX4_count 78 = .ok (.ireturn, 1) := by decide +kernel
theorem dX4_count_79 : decode cX4_count 79 = .ok (.aload_n 0, 1) := by decide +kernel
theorem dX4_count_80 : decode cX4_count 80 = .ok (.getfield 86, 3) := by decide +kernel
theorem dX4_count_83 : decode cX4_count 83 = .ok (.ireturn, 1) := by decide +kernel
theorem dX4_count_84 : decode cX4_count 84 = .ok (.aload_n 0, 1) := by decide +kernel
theorem dX4_count_85 : decode cX4_count 85 = .ok (.getfield 73, 3) := by decide +kernel
theorem dX4_count_88 : decode cX4_count 88 = .ok (.ireturn, 1) := by decide +kernel
theorem dX4_count_89 : decode cX4_count 89 = .ok (.aload_n 0, 1) := by decide +kernel
theorem dX4_count_90 : decode cX4_count 90 = .ok (.getfield 140, 3) := by decide +kernel
theorem dX4_count_93 : decode cX4_count 93 = .ok (.ireturn, 1) := by decide +kernel
theorem dX4_count_94 : decode cX4_count 94 = .ok (.aload_n 0, 1) := by decide +kernel
theorem dX4_count_95 : decode cX4_count 95 = .ok (.getfield 127, 3) := by decide +kernel
theorem dX4_count_98 : decode cX4_count 98 = .ok (.ireturn, 1) := by decide +kernel
theorem dX4_count_99 : decode cX4_count 99 = .ok (.aload_n 0, 1) := by decide +kernel
theorem dX4_count_100 : decode cX4_count 100 = .ok (.getfield 152, 3) := by decide +kernel
theorem dX4_count_103 : decode cX4_count 103 = .ok (.ireturn, 1) := by decide +kernel
theorem dX4_count_104 : decode cX4_count 104 = .ok (.aload_n 0, 1) := by decide +kernel
theorem dX4_count_105 : decode cX4_count 105 = .ok (.getfield 86, 3) := by decide +kernel
theorem dX4_count_108 : decode cX4_count 108 = .ok (.ifCond .ne 7, 3) := by decide +kernel
theorem dX4_count_111 : decode cX4_count 111 = .ok (.iconst (-1), 1) := by decide +kernel
theorem dX4_count_112 : decode cX4_count 112 = .ok (.goto 7, 3) := by decide +kernel
theorem dX4_count_115 : decode cX4_count 115 = .ok (.aload_n 0, 1) := by decide +kernel
theorem dX4_count_116 : decode cX4_count 116 = .ok (.getfield 83, 3) := by decide +kernel
theorem dX4_count_119 : decode cX4_count 119 = .ok (.ireturn, 1) := by decide +kernel
theorem dX4_count_120 : decode cX4_count 120 = .ok (.aload_n 0, 1) := by decide +kernel
theorem dX4_count_121 : decode cX4_count 121 = .ok (.getfield 100, 3) := by decide +kernel
theorem dX4_count_124 : decode cX4_count 124 = .ok (.ireturn, 1) := by decide +kernel
theorem dX4_count_125 : decode cX4_count 125 = .ok (.aload_n 0, 1) := by decide +kernel
theorem dX4_count_126 : decode cX4_count 126 = .ok (.getfield 103, 3) := by decide +kernel
theorem dX4_count_129 : decode cX4_count 129 = .ok (.ireturn, 1) := by decide +kernel
theorem dX4_count_130 : decode cX4_count 130 = .ok (.iconst (-1), 1) := by decide +kernel
theorem dX4_count_131 : decode cX4_count 131 = .ok (.ireturn, 1) := by decide +kernel
end
section
/-! my own rows: numbers by Nat, arrays by Nat, readers, writers -/
def b2i (b : Bool) : Int32 := if b = true then 1 else 0
theorem b2i_t {b : Bool} (h : ¬ b2i b = 0) : b = true := by cases b with | true => rfl | false => exact absurd rfl h
theorem b2i_f {b : Bool} (h : b2i b = 0) : b = false := by cases b with | false => rfl | true => exact absurd h (by decide)
theorem b2i_n (b : Bool) : narrow .boolean (.int (b2i b)) = .int (b2i b) := by cases b <;> rfl
def inB (x : Int32) (k : Nat) : Bool := decide (¬ x < 0) && decide (x < nI k)
theorem inB_t {x : Int32} {k : Nat} (h : inB x k = true) (hk : k < 2 ^ 31) : ∃ j : Nat, j < k ∧ x = nI j := by
  simp only [inB, Bool.and_eq_true, decide_eq_true_eq] at h
  obtain ⟨j, hj, rfl⟩ := nI_of h.1
  exact ⟨j, (nI_ltI hj hk).mp h.2, rfl⟩
theorem inB_f {x : Int32} {k : Nat} (h : inB x k = false) : x < 0 ∨ ¬ x < nI k := by
  simp only [inB, Bool.and_eq_false_iff, decide_eq_false_iff_not, Classical.not_not] at h
  exact h
theorem inB_nI {j k : Nat} (hj : j < 2 ^ 31) (hk : k < 2 ^ 31) : inB (nI j) k = decide (j < k) := by
  have h1 : ¬ nI j < 0 := nI_pos hj
  by_cases h : j < k
  · simp [inB, h1, (nI_ltI hj hk).mpr h, h]
  · have h2 : ¬ nI j < nI k := fun q => h ((nI_ltI hj hk).mp q)
    simp [inB, h2, h]
theorem inB_m1 (k : Nat) : inB (-1) k = false := by
  have : ((-1 : Int32) < 0) := by decide
  simp [inB, this]
theorem inB_lt {x : Int32} {k : Nat} (h : x < 0) : inB x k = false := by simp [inB, h]
theorem inB_ge {x : Int32} {k : Nat} (h : ¬ x < nI k) : inB x k = false := by simp [inB, h]
theorem inB_ge' {x : Int32} {k : Nat} (h : nI k ≤ x) : inB x k = false := inB_ge (by rw [Int32.lt_iff_toInt_lt]; rw [Int32.le_iff_toInt_le] at h; omega)
theorem i32_ge {x y : Int32} (h : ¬ y ≤ x) : x < y := by rw [Int32.lt_iff_toInt_lt]; rw [Int32.le_iff_toInt_le] at h; omega
theorem i32_lt {x y : Int32} (h : ¬ x < y) : y ≤ x := by rw [Int32.le_iff_toInt_le]; rw [Int32.lt_iff_toInt_lt] at h; omega
theorem inB_in {x : Int32} {k : Nat} (h1 : ¬ x < 0) (h2 : ¬ nI k ≤ x) : inB x k = true := by
  have := i32_ge h2
  simp [inB, h1, this]
theorem nI_m1 {j : Nat} (h : j < 2 ^ 31) : ¬ nI j = -1 := fun q => nI_pos h (by rw [q]; decide)
theorem nI_z {j : Nat} (h : j < 2 ^ 31) : nI j = 0 ↔ j = 0 := by rw [← nI_0]; exact nI_eq h (by omega)
theorem nI_leN {a b : Nat} (ha : a < 2 ^ 31) (hb : b < 2 ^ 31) : ¬ nI a ≤ nI b ↔ b < a := by rw [nI_leI ha hb]; omega
def un (n : Nat → Nat) (k v : Nat) : Nat → Nat := fun j => if j = k then v else n j
def uf (f : Nat → Nat → Int32) (k : Nat) (g : Nat → Int32) : Nat → Nat → Int32 := fun j => if j = k then g else f j
theorem un_s {n : Nat → Nat} {k v : Nat} : un n k v k = v := by simp [un]
theorem un_n {n : Nat → Nat} {k v j : Nat} (h : j ≠ k) : un n k v j = n j := by simp [un, h]
theorem uf_s {f : Nat → Nat → Int32} {k : Nat} {g : Nat → Int32} : uf f k g k = g := by simp [uf]
theorem uf_n {f : Nat → Nat → Int32} {k j : Nat} {g : Nat → Int32} (h : j ≠ k) : uf f k g j = f j := by simp [uf, h]
abbrev tyl (cs : ClassId × ClassId) : List (ClassId × FieldType) := [(cs.1, .int), (cs.2, .boolean)]
section RW
variable {p : Program} {l : Launch} {e : Env} {R : Room} {s : State} {m : MethodId} {args : Array Value} {below : List Frame} {meth : Method} {c : Code} {H : Heap} {locs : List Loc} {cells slots : Nat} {Q : State → Prop} {pc : Nat} {ls : Array Slot} {rest st0 : List Value}
variable {cc : ByteArray} {D : va_G} {cl : List vw_C} {A A0 : Nat → Prop} {a : Nat} {av : Array Value} {tys : List (ClassId × FieldType)} {ws ws' : va_W} {H0 : Heap}
theorem tp_eq {x y : Int32} (h : x = y) (k : W p l e R s m args below meth c H locs cells slots Q (F0 m pc ls (.int y :: rest))) : W p l e R s m args below meth c H locs cells slots Q (F0 m pc ls (.int x :: rest)) := h ▸ k
theorem ar_ld (hexec : p.tables.exec = Jvm.exec) (hb : c.code = cc) (hK : va_K D cl tys s) (hP : va_P D cl ws H) (q0 t0 : Nat) {cA : ClassId} {n : Nat} {f : Nat → Int32} (ha : ws[q0]? = some (a, .inl (cA, n, .inl f))) (ht : tys[t0]? = some (cA, .int)) {j : Nat} (hj : j < n) (hn : n < 2 ^ 31) (hdg : decode cc pc = .ok (.iaload, 1))
    (kk : W p l e R s m args below meth c H locs cells slots Q (F0 m (pc + 1) ls (.int (f j) :: rest))) : W p l e R s m args below meth c H locs cells slots Q (F0 m pc ls (.int (nI j) :: .ref a :: rest)) :=
  va_iald hexec hb hK hP q0 t0 ha ht (vp_in_nI hj hn) hdg (by rw [nI_clamp (by omega)]; exact kk)
theorem ar_zld (hexec : p.tables.exec = Jvm.exec) (hb : c.code = cc) (hK : va_K D cl tys s) (hP : va_P D cl ws H) (q0 t0 : Nat) {cA : ClassId} {n : Nat} {f : Nat → Int32} (ha : ws[q0]? = some (a, .inl (cA, n, .inl f))) (ht : tys[t0]? = some (cA, .boolean)) {j : Nat} (hj : j < n) (hn : n < 2 ^ 31) (hdg : decode cc pc = .ok (.baload, 1))
    (kk : W p l e R s m args below meth c H locs cells slots Q (F0 m (pc + 1) ls (.int (f j) :: rest))) : W p l e R s m args below meth c H locs cells slots Q (F0 m pc ls (.int (nI j) :: .ref a :: rest)) :=
  va_zald hexec hb hK hP q0 t0 ha ht (vp_in_nI hj hn) hdg (by rw [nI_clamp (by omega)]; exact kk)
theorem ar_st (hexec : p.tables.exec = Jvm.exec) (hb : c.code = cc) (hK : va_K D cl tys s) (hP : va_P D cl ws H) (hD : va_D A ws) (hS : va_S A H0 H locs) (q0 t0 : Nat) {cA : ClassId} {n : Nat} {f : Nat → Int32} (ha : ws[q0]? = some (a, .inl (cA, n, .inl f))) (ht : tys[t0]? = some (cA, .int)) {j : Nat} {x : Int32} (hj : j < n) (hn : n < 2 ^ 31) (hdg : decode cc pc = .ok (.iastore, 1))
    (kk : ∀ (H1 : Heap) (locs1 : List Loc), va_P D cl (ws.set q0 (a, .inl (cA, n, .inl (upd f j x)))) H1 → va_D A (ws.set q0 (a, .inl (cA, n, .inl (upd f j x)))) → va_S A H0 H1 locs1 → W p l e R s m args below meth c H1 locs1 cells slots Q (F0 m (pc + 1) ls rest)) : W p l e R s m args below meth c H locs cells slots Q (F0 m pc ls (.int x :: .int (nI j) :: .ref a :: rest)) :=
  va_iast hexec hb hK hP hD hS q0 t0 ha ht (vp_in_nI hj hn) hdg (by rw [nI_clamp (by omega)]; exact kk)
theorem ar_zst (hexec : p.tables.exec = Jvm.exec) (hb : c.code = cc) (hK : va_K D cl tys s) (hP : va_P D cl ws H) (hD : va_D A ws) (hS : va_S A H0 H locs) (q0 t0 : Nat) {cA : ClassId} {n : Nat} {f : Nat → Int32} (ha : ws[q0]? = some (a, .inl (cA, n, .inl f))) (ht : tys[t0]? = some (cA, .boolean)) {j : Nat} {x y : Int32} (hx : vp_nar .boolean x = y) (hj : j < n) (hn : n < 2 ^ 31) (hdg : decode cc pc = .ok (.bastore, 1))
    (kk : ∀ (H1 : Heap) (locs1 : List Loc), va_P D cl (ws.set q0 (a, .inl (cA, n, .inl (upd f j y)))) H1 → va_D A (ws.set q0 (a, .inl (cA, n, .inl (upd f j y)))) → va_S A H0 H1 locs1 → W p l e R s m args below meth c H1 locs1 cells slots Q (F0 m (pc + 1) ls rest)) : W p l e R s m args below meth c H locs cells slots Q (F0 m pc ls (.int x :: .int (nI j) :: .ref a :: rest)) :=
  va_zast hexec hb hK hP hD hS q0 t0 ha ht (vp_in_nI hj hn) hdg (by rw [nI_clamp (by omega), hx]; exact kk)
/-- a reader's start; its end is QcRead -/
def rdPc (D : va_G) (cl : List vw_C) (ws : va_W) (tys : List (ClassId × FieldType)) (av : List Value) : Array Value → State → Prop := va_Pc av (fun U => va_P D cl ws U.heap ∧ va_K D cl tys U)
theorem rd_blind {av : List Value} : FrameBlind (rdPc D cl ws tys av) := fun a U g mk q => by
  obtain ⟨q0, qP, qK⟩ := q
  exact ⟨q0, qP, va_K.moved (u := U) (U := U.calling g mk a) (Vm.Alike.refl U.vm) qK⟩
theorem rd_preV {b ci : Nat} {q : vw_C} {fs As : List Value} (hP : va_P D cl ws H) (hK : va_K D cl tys s) (q0 : Nat) (hc : cl[ci]? = some q) (he : ws[q0]? = some (b, .inr (ci, fs))) : PreV s H q.1 b (rdPc D cl ws tys (.ref b :: As)) As :=
  ⟨rd_blind, va_recv hK hP hc he, fun U hU hW => ⟨rfl, by rw [hU]; exact hP, va_K.moved hW.alike hK⟩⟩
theorem rd_preS {As : List Value} (hP : va_P D cl ws H) (hK : va_K D cl tys s) : PreS s H (rdPc D cl ws tys As) As :=
  ⟨rd_blind, fun U hU hW => ⟨rfl, by rw [hU]; exact hP, va_K.moved hW.alike hK⟩⟩
theorem rd_of {y : MethodName} {wc wc' : List Cond} {rm : Room} {av : List Value} {r : Int32} {maxL : Nat} {ret : Option FieldType} {own : String} (hy : plainName y.cls = true) (ho : y.cls = own) (hw : wc = Cond.code y cc maxL ret :: wc') (hfit : (lg_sl av).length ≤ maxL)
    (body : ∀ (p : Program) (e : Env) (s : State) (m : MethodId) (below : List Frame) (meth : Method) (c : Code), p.tables.exec = Jvm.exec → c.code = cc → meth.sig.returnType = ret → c.maxLocals = maxL → (∀ w ∈ wc, w.before av.toArray s = true) → s.vm.findClass own = some m.cls → meth.locks = false → va_P D cl ws s.heap → va_K D cl tys s →
      ∀ ls : Array Slot, lv_has ls maxL (lv_args 0 av) → W p l e rm s m av.toArray below meth c s.heap [] 0 0 (MQ below (QcRead r) av.toArray s 0 0 (fun _ => False)) (F0 m 0 ls [])) : Met l y wc rm (rdPc D cl ws tys av) (QcRead r) 0 0 (fun _ => False) := by
  refine Met.ofW (cc := cc) (maxL := maxL) (ret := ret) hy hw ?_
  intro p e s m args below meth c s₁ B hml hv
  obtain ⟨rfl, hP, hK⟩ := hv
  have hl := lv_entry av (n := maxL) hfit
  rw [lg_entry_eq]
  generalize (lg_sl av ++ List.replicate (maxL - (lg_sl av).length) Slot.unset).toArray = ls at hl ⊢
  exact body p e s m below meth c B.exec B.bytes B.returns hml (atoms_spec (ws := wc) B.pre) (ho ▸ findClass_of_methodNamed B.named) B.notSynchronized hP hK ls hl
theorem rd_iret {v : Int32} (hexec : p.tables.exec = Jvm.exec) (hb : c.code = cc) (hr : meth.sig.returnType = some .int) (hlocks : meth.locks = false) (hdg : decode cc pc = .ok (.ireturn, 1)) : W p l e R s m args below meth c s.heap [] 0 0 (MQ below (QcRead v) args s 0 0 (fun _ => False)) (F0 m pc ls [.int v]) :=
  W.iret hexec hb hr (fun t ht _ => ⟨rfl, ht⟩) (fun _ h => nomatch h) hdg hlocks
theorem rd_zret {b : Bool} (hexec : p.tables.exec = Jvm.exec) (hb : c.code = cc) (hr : meth.sig.returnType = some .boolean) (hlocks : meth.locks = false) (hdg : decode cc pc = .ok (.ireturn, 1)) : W p l e R s m args below meth c s.heap [] 0 0 (MQ below (QcRead (b2i b)) args s 0 0 (fun _ => False)) (F0 m pc ls [.int (b2i b)]) :=
  W.zret hexec hb hr (b2i_n b) (fun t ht _ => ⟨rfl, ht⟩) (fun _ h => nomatch h) hdg hlocks
/-- a writer's start and end: it makes no cell; the world behind it is ws' -/
def wrPc (D : va_G) (cl : List vw_C) (ws : va_W) (tys : List (ClassId × FieldType)) (sz : Nat) (av : List Value) : Array Value → State → Prop := va_Pc av (fun U => U.heap.size = sz ∧ va_P D cl ws U.heap ∧ va_K D cl tys U ∧ va_D (fun _ => True) ws)
def wrQ (D : va_G) (cl : List vw_C) (ws' : va_W) (ov : Option Value) (A : Nat → Prop) : Array Value → State → Outcome → State → Prop := fun _ st o t => o = .returned ov ∧ va_P D cl ws' t.heap ∧ va_F A st t
theorem wr_blind {sz : Nat} {av : List Value} : FrameBlind (wrPc D cl ws tys sz av) := fun a U g mk q => by
  obtain ⟨q0, q1, qP, qK, qD⟩ := q
  exact ⟨q0, q1, qP, va_K.moved (u := U) (U := U.calling g mk a) (Vm.Alike.refl U.vm) qK, qD⟩
theorem wr_preV {b ci : Nat} {q : vw_C} {fs As : List Value} (hP : va_P D cl ws H) (hK : va_K D cl tys s) (hD : va_D A ws) (q0 : Nat) (hc : cl[ci]? = some q) (he : ws[q0]? = some (b, .inr (ci, fs))) : PreV s H q.1 b (wrPc D cl ws tys H.size (.ref b :: As)) As :=
  ⟨wr_blind, va_recv hK hP hc he, fun U hU hW => ⟨rfl, by rw [hU], by rw [hU]; exact hP, va_K.moved hW.alike hK, hD.weaken (fun _ _ _ _ => trivial)⟩⟩
theorem va_D.same (h : va_D A ws) (hs : ws'.map Prod.fst = ws.map Prod.fst) : va_D A ws' := by
  have key : ∀ (k : Nat) (q : Nat × va_E), ws'[k]? = some q → ∃ e9, ws[k]? = some (q.1, e9) := by
    intro k q hk
    have h1 : (ws'.map Prod.fst)[k]? = some q.1 := by rw [List.getElem?_map, hk]; rfl
    rw [hs, List.getElem?_map] at h1
    cases hw : ws[k]? with
    | none => rw [hw] at h1; cases h1
    | some z => rw [hw] at h1; exact ⟨z.2, by rw [← Option.some.inj h1]⟩
  refine ⟨fun i j x y hx hy hxy => ?_, fun k q hk => ?_⟩
  · obtain ⟨e1, h1⟩ := key i x hx
    obtain ⟨e2, h2⟩ := key j y hy
    exact h.1 i j _ _ h1 h2 hxy
  · obtain ⟨e1, h1⟩ := key k q hk
    exact h.2 k (q.1, e1) h1
theorem wr_free (hD : va_D A0 ws) (hS : va_S A0 H0 H locs) (hA : ∀ q, H0.size ≤ q → A0 q) : ∀ q, va_A ws H.size q → A0 q := fun q h => h.elim (fun ⟨k, e, hk⟩ => hD.2 k _ hk) (fun h => hA q (Nat.le_trans hS.1 h))
theorem wr_of {y : MethodName} {wc wc' : List Cond} {rm : Room} {sz : Nat} {av : List Value} {ov : Option Value} {maxL : Nat} {ret : Option FieldType} {own : String} (hy : plainName y.cls = true) (ho : y.cls = own) (hw : wc = Cond.code y cc maxL ret :: wc') (hfit : (lg_sl av).length ≤ maxL)
    (body : ∀ (p : Program) (e : Env) (s : State) (m : MethodId) (below : List Frame) (meth : Method) (c : Code) (A : Nat → Prop), s.heap.size = sz → va_A ws sz = A → p.tables.exec = Jvm.exec → c.code = cc → meth.sig.returnType = ret → c.maxLocals = maxL → (∀ w ∈ wc, w.before av.toArray s = true) → s.vm.findClass own = some m.cls → meth.locks = false → va_P D cl ws s.heap → va_K D cl tys s → va_D A ws → (∀ q, s.heap.size ≤ q → A q) → va_S A s.heap s.heap [] →
      ∀ ls : Array Slot, lv_has ls maxL (lv_args 0 av) → W p l e rm s m av.toArray below meth c s.heap [] 0 0 (MQ below (wrQ D cl ws' ov A) av.toArray s 0 0 A) (F0 m 0 ls [])) : Met l y wc rm (wrPc D cl ws tys sz av) (wrQ D cl ws' ov (va_A ws sz)) 0 0 (va_A ws sz) := by
  refine Met.ofW (cc := cc) (maxL := maxL) (ret := ret) hy hw ?_
  intro p e s m args below meth c s₁ B hml hv
  obtain ⟨rfl, hsz, hP, hK, hD0⟩ := hv
  have hl := lv_entry av (n := maxL) hfit
  rw [lg_entry_eq]
  generalize (lg_sl av ++ List.replicate (maxL - (lg_sl av).length) Slot.unset).toArray = ls at hl ⊢
  exact body p e s m below meth c _ hsz rfl B.exec B.bytes B.returns hml (atoms_spec (ws := wc) B.pre) (ho ▸ findClass_of_methodNamed B.named) B.notSynchronized hP hK hD0.self (fun q h => Or.inr (by omega)) va_S.rf ls hl
theorem wr_iret {v : Int32} (hexec : p.tables.exec = Jvm.exec) (hb : c.code = cc) (hr : meth.sig.returnType = some .int) (hlocks : meth.locks = false) (hP : va_P D cl ws' H) (hS : va_S A s.heap H locs) (hdg : decode cc pc = .ok (.ireturn, 1)) : W p l e R s m args below meth c H locs 0 0 (MQ below (wrQ D cl ws' (some (.int v)) A) args s 0 0 A) (F0 m pc ls [.int v]) :=
  W.iret hexec hb hr (fun t ht _ => ⟨rfl, by rw [ht]; exact hP, hS.F ht⟩) hS.2.2 hdg hlocks
theorem wr_zret {b : Bool} (hexec : p.tables.exec = Jvm.exec) (hb : c.code = cc) (hr : meth.sig.returnType = some .boolean) (hlocks : meth.locks = false) (hP : va_P D cl ws' H) (hS : va_S A s.heap H locs) (hdg : decode cc pc = .ok (.ireturn, 1)) : W p l e R s m args below meth c H locs 0 0 (MQ below (wrQ D cl ws' (some (.int (b2i b))) A) args s 0 0 A) (F0 m pc ls [.int (b2i b)]) :=
  W.zret hexec hb hr (b2i_n b) (fun t ht _ => ⟨rfl, by rw [ht]; exact hP, hS.F ht⟩) hS.2.2 hdg hlocks
theorem wr_vret (hexec : p.tables.exec = Jvm.exec) (hb : c.code = cc) (hr : meth.sig.returnType = none) (hlocks : meth.locks = false) (hP : va_P D cl ws' H) (hS : va_S A s.heap H locs) (hdg : decode cc pc = .ok (.return_, 1)) : W p l e R s m args below meth c H locs 0 0 (MQ below (wrQ D cl ws' none A) args s 0 0 A) (F0 m pc ls []) :=
  W.vret hexec hb hr (fun t ht _ => ⟨rfl, by rw [ht]; exact hP, hS.F ht⟩) hS.2.2 hdg hlocks
theorem wr_call0 {ov : Option Value} (hr : va_Run p l e R s m args below meth c H locs cells slots 0 0 (F0 m pc ls st0) rest (wrQ D cl ws' ov (va_A ws H.size) av) (va_A ws H.size)) (hS : va_S A0 H0 H locs) (hD : va_D A0 ws) (hA : ∀ q, H0.size ≤ q → A0 q) (hsm : ws'.map Prod.fst = ws.map Prod.fst)
    (kk : ∀ (H1 : Heap) (locs1 : List Loc), va_P D cl ws' H1 → va_D A0 ws' → va_S A0 H0 H1 locs1 → W p l e R s m args below meth c H1 locs1 cells slots Q (F0 m (pc + 3) ls (ov.toList ++ rest))) : W p l e R s m args below meth c H locs cells slots Q (F0 m pc ls st0) := by
  have hF := wr_free hD hS hA
  intro T hT X
  obtain ⟨v, st₀, t, T', L, h0, X', hL, e1, e2, ⟨hv, hp, hz, hk⟩, st⟩ := hr T hT X
  cases hv
  rw [h0] at hz hk
  obtain ⟨t2, a1, b1⟩ := kk T'.heap (locs ++ L) (by rw [e1]; exact hp) (hD.same hsm)
    ⟨Nat.le_trans hS.1 (by rw [e1]; exact hz), fun q h1 h2 => by rw [e1, hk q (Nat.lt_of_lt_of_le h1 hS.1) (fun z => h2 (hF q z))]; exact hS.2.1 q h1 h2, fun q hq => by
      rcases List.mem_append.mp hq with h | h
      · exact hS.2.2 q h
      · exact hF _ (hL q h)⟩ T' rfl X'
  exact ⟨t2, st t2 a1, b1⟩
theorem wr_calli {v : Int32} (hr : va_Run p l e R s m args below meth c H locs cells slots 0 0 (F0 m pc ls st0) rest (wrQ D cl ws' (some (.int v)) (va_A ws H.size) av) (va_A ws H.size)) (hS : va_S A0 H0 H locs) (hD : va_D A0 ws) (hA : ∀ q, H0.size ≤ q → A0 q) (hsm : ws'.map Prod.fst = ws.map Prod.fst)
    (kk : ∀ (H1 : Heap) (locs1 : List Loc), va_P D cl ws' H1 → va_D A0 ws' → va_S A0 H0 H1 locs1 → W p l e R s m args below meth c H1 locs1 cells slots Q (F0 m (pc + 3) ls (.int v :: rest))) : W p l e R s m args below meth c H locs cells slots Q (F0 m pc ls st0) := wr_call0 hr hS hD hA hsm kk
theorem wr_callv (hr : va_Run p l e R s m args below meth c H locs cells slots 0 0 (F0 m pc ls st0) rest (wrQ D cl ws' none (va_A ws H.size) av) (va_A ws H.size)) (hS : va_S A0 H0 H locs) (hD : va_D A0 ws) (hA : ∀ q, H0.size ≤ q → A0 q) (hsm : ws'.map Prod.fst = ws.map Prod.fst)
    (kk : ∀ (H1 : Heap) (locs1 : List Loc), va_P D cl ws' H1 → va_D A0 ws' → va_S A0 H0 H1 locs1 → W p l e R s m args below meth c H1 locs1 cells slots Q (F0 m (pc + 3) ls rest)) : W p l e R s m args below meth c H locs cells slots Q (F0 m pc ls st0) := wr_call0 hr hS hD hA hsm kk
end RW
theorem b_1 {B : Bool} (h : B = true) : nI 1 = b2i B := by rw [h]; decide
theorem b_0 {B : Bool} (h : B = false) : nI 0 = b2i B := by rw [h]; decide
theorem nI_sa {a b c : Nat} (h : b ≤ a + c) : nI a - nI b + nI c = nI (a + c - b) := by
  have h1 : nI (a + c - b) + nI b = nI a + nI c := by
    rw [nI_add, nI_add]
    congr 1
    omega
  grind
theorem inB_lt' {j k : Nat} (h : inB (nI j) k = true) (hj : j < 2 ^ 31) (hk : k < 2 ^ 31) : j < k := by rw [inB_nI hj hk] at h; exact of_decide_eq_true h
theorem inB_nl {j k : Nat} (h : inB (nI j) k = false) (hj : j < 2 ^ 31) (hk : k < 2 ^ 31) : ¬ j < k := by rw [inB_nI hj hk] at h; exact of_decide_eq_false h
end
section
def wX (cs : ClassId × ClassId) (a n : Nat → Nat) (f : Nat → Nat → Int32) : va_W := [(a 0, .inr (4, [.ref (a 1), .ref (a 2), .ref (a 3), .ref (a 4), .ref (a 5), .ref (a 6), .int (nI (n 3)), .int (nI (n 4)), .int (nI (n 5))])), (a 1, .inr (2, [.ref (a 7), .ref (a 8), .ref (a 9), .int (nI (n 6)), .int (nI (n 7))])), (a 2, .inr (3, [.ref (a 10), .ref (a 11), .ref (a 12), .ref (a 13), .ref (a 14), .ref (a 15), .ref (a 16), .int (nI (n 8)), .int (nI (n 9)), .int (nI (n 10))])), (a 3, .inr (1, [.ref (a 17), .ref (a 18), .int (nI (n 11))])), (a 4, .inl (cs.1, n 0, .inl (f 4))), (a 5, .inl (cs.1, n 0, .inl (f 5))), (a 6, .inl (cs.1, 8, .inl (f 6))), (a 7, .inl (cs.1, n 1, .inl (f 7))), (a 8, .inl (cs.2, n 1, .inl (f 8))), (a 9, .inl (cs.1, n 1, .inl (f 9))), (a 10, .inl (cs.1, n 2, .inl (f 10))), (a 11, .inl (cs.1, n 2, .inl (f 11))), (a 12, .inl (cs.1, n 2, .inl (f 12))), (a 13, .inl (cs.1, n 2, .inl (f 13))), (a 14, .inl (cs.1, n 2, .inl (f 14))), (a 15, .inl (cs.1, n 2, .inl (f 15))), (a 16, .inl (cs.1, n 2, .inl (f 16))), (a 17, .inl (cs.1, 8, .inl (f 17))), (a 18, .inl (cs.1, 8, .inl (f 18)))]
def wM (cs : ClassId × ClassId) (b g : Nat → Nat) (h : Nat → Nat → Int32) : va_W := [(b 0, .inr (5, [.int (nI (g 0)), .int (nI (g 1)), .int (nI (g 2)), .int (nI (g 3)), .ref (b 4), .ref (b 5), .ref (b 6), .ref (b 7), .ref (b 8), .int (nI (g 9)), .int (nI (g 10)), .int (nI (g 11)), .ref (b 12), .ref (b 13), .ref (b 14), .ref (b 15), .ref (b 16), .ref (b 17), .ref (b 18), .ref (b 19), .ref (b 20), .ref (b 21), .int (nI (g 22)), .int (nI (g 23)), .ref (b 24), .int (nI (g 25)), .int (nI (g 26)), .int (nI (g 27)), .int (nI (g 28))])), (b 4, .inl (cs.1, 32, .inl (h 4))), (b 5, .inl (cs.1, 32, .inl (h 5))), (b 6, .inl (cs.1, 96, .inl (h 6))), (b 7, .inl (cs.2, 96, .inl (h 7))), (b 8, .inl (cs.1, 96, .inl (h 8))), (b 12, .inl (cs.1, 64, .inl (h 12))), (b 13, .inl (cs.1, 64, .inl (h 13))), (b 14, .inl (cs.1, 64, .inl (h 14))), (b 15, .inl (cs.1, 64, .inl (h 15))), (b 16, .inl (cs.1, 64, .inl (h 16))), (b 17, .inl (cs.1, 64, .inl (h 17))), (b 18, .inl (cs.1, 64, .inl (h 18))), (b 19, .inl (cs.2, 8, .inl (h 19))), (b 20, .inl (cs.1, 8, .inl (h 20))), (b 21, .inl (cs.1, 8, .inl (h 21))), (b 24, .inl (cs.1, 8, .inl (h 24)))]
/-! my own: what the class's readers say, over its numbers n and its arrays f -/
def x_bd (n : Nat → Nat) : Prop := 1 ≤ n 0 ∧ n 0 ≤ 32 ∧ n 0 < n 1 ∧ n 1 ≤ 96 ∧ 1 ≤ n 2 ∧ n 2 ≤ 64 ∧ n 3 < 1000000 ∧ n 4 < 1000000 ∧ n 5 < 1000000 ∧ n 6 < n 1 ∧ n 7 ≤ n 1 ∧ n 8 < n 2 ∧ n 9 ≤ n 2 ∧ n 10 < 1000000 ∧ n 11 ≤ 8
def x_age (n : Nat → Nat) (p : Nat) : Nat := if n 8 ≤ p then p - n 8 else p + n 2 - n 8
def x_pos (n : Nat → Nat) (i : Nat) : Nat := if n 8 + i < n 2 then n 8 + i else n 8 + i - n 2
def x_slot (n : Nat → Nat) (k : Nat) : Nat := if n 6 + k < n 1 then n 6 + k else n 6 + k - n 1
def cl32 (x : Int32) : Nat := x.toNatClampNeg
theorem cl32_nI {j : Nat} (h : j < 2 ^ 31) : cl32 (nI j) = j := nI_clamp h
def x_holds (n : Nat → Nat) (x : Int32) : Bool := inB x (n 2) && decide (x_age n (cl32 x) < n 9)
def x_isIn (n : Nat → Nat) (f : Nat → Nat → Int32) (x w : Int32) : Bool := x_holds n x && decide (f 16 (cl32 x) = w)
def x_old (n : Nat → Nat) : Int32 := if n 9 = 0 then -1 else nI (n 8)
def x_last (n : Nat → Nat) : Int32 := if n 9 = 0 then -1 else nI (x_pos n (n 9 - 1))
def x_at (k : Nat) (n : Nat → Nat) (f : Nat → Nat → Int32) (x : Int32) : Int32 := if inB x (n 2) = true then f k (cl32 x) else -1
def x_cur (n : Nat → Nat) (f : Nat → Nat → Int32) (x : Int32) : Int32 := if inB x (n 0) = true then f 4 (cl32 x) else -1
def x_sh (n : Nat → Nat) (f : Nat → Nat → Int32) (x : Int32) : Int32 := if inB x (n 1) = true then f 7 (cl32 x) else 0
def x_fa (n : Nat → Nat) (f : Nat → Nat → Int32) (x : Int32) : Int32 := if inB x (n 7) = true then f 9 (x_slot n (cl32 x)) else -1
def x_rdy (n : Nat → Nat) (f : Nat → Nat → Int32) (x : Int32) : Bool := !inB x (n 1) || !decide (f 8 (cl32 x) = 0)
def x_able (n : Nat → Nat) (f : Nat → Nat → Int32) (j : Nat) : Bool := x_isIn n f (nI j) (nI 0) && (x_rdy n f (f 10 j) && x_rdy n f (f 11 j))
def x_find (n : Nat → Nat) (f : Nat → Nat → Int32) (p : Int32) : Nat → Nat → Int32
  | 0, _ => -1
  | k + 1, i => if decide (f 15 (x_pos n i) = p) && x_able n f (x_pos n i) then nI (x_pos n i) else x_find n f p k (i + 1)
def x_cnt (n : Nat → Nat) (f : Nat → Nat → Int32) : Nat → Nat
  | 0 => 0
  | k + 1 => x_cnt n f k + (if x_able n f (x_pos n k) then 1 else 0)
def x_tf (f : Nat → Nat → Int32) (x : Int32) : Nat → Nat → Int32
  | 0, _ => -1
  | k + 1, t => if f 18 t = x then nI t else x_tf f x k (t + 1)
def x_turn (n : Nat → Nat) (f : Nat → Nat → Int32) (x : Int32) : Int32 := x_tf f x (n 11) 0
def x_bef (f : Nat → Nat → Int32) (x : Int32) : Int32 := if inB x 8 = true then f 17 (cl32 x) else 0
def x_om (n : Nat → Nat) (f : Nat → Nat → Int32) : Int32 := if n 11 = 0 then -1 else f 18 0
def x_rb (n : Nat → Nat) (f : Nat → Nat → Int32) : Int32 := if x_om n f = -1 then nI (n 9) else x_bef f (x_om n f) - nI (n 10)
theorem x_pos_lt {n : Nat → Nat} {i : Nat} (h : n 8 < n 2) (h2 : i ≤ n 2) : x_pos n i < n 2 := by unfold x_pos; split <;> omega
theorem x_age_lt {n : Nat → Nat} {p : Nat} (h : n 8 < n 2) (h2 : p < n 2) : x_age n p < n 2 := by unfold x_age; split <;> omega
theorem x_age_pos {n : Nat → Nat} {i : Nat} (h : n 8 < n 2) (h2 : i < n 2) : x_age n (x_pos n i) = i := by unfold x_age x_pos; split <;> split <;> omega
theorem x_pos_age {n : Nat → Nat} {p : Nat} (h : n 8 < n 2) (h2 : p < n 2) : x_pos n (x_age n p) = p := by unfold x_age x_pos; split <;> split <;> omega
theorem x_slot_lt {n : Nat → Nat} {k : Nat} (h : n 6 < n 1) (h2 : k ≤ n 1) : x_slot n k < n 1 := by unfold x_slot; split <;> omega
theorem x_holds_t {n : Nat → Nat} {x : Int32} (h : x_holds n x = true) (hn : n 2 < 2 ^ 31) : ∃ j : Nat, j < n 2 ∧ x = nI j := by
  simp only [x_holds, Bool.and_eq_true] at h
  exact inB_t h.1 hn
theorem x_holds_nI {n : Nat → Nat} {j : Nat} (hj : j < n 2) (hn : n 2 < 2 ^ 31) : x_holds n (nI j) = decide (x_age n j < n 9) := by
  rw [x_holds, inB_nI (by omega) hn, cl32_nI (by omega)]
  simp [hj]
theorem x_at_nI {k : Nat} {n : Nat → Nat} {f : Nat → Nat → Int32} {j : Nat} (hj : j < n 2) (hn : n 2 < 2 ^ 31) : x_at k n f (nI j) = f k j := by
  rw [x_at, inB_nI (by omega) hn, cl32_nI (by omega)]
  simp [hj]
/-! what its writers make of them -/
def x_gN (n : Nat → Nat) (f : Nat → Nat → Int32) (q : Nat) : Nat → Nat := if f 7 q - nI 1 = 0 then un n 7 (n 7 + 1) else n
def x_gF (n : Nat → Nat) (f : Nat → Nat → Int32) (q : Nat) : Nat → Nat → Int32 := if f 7 q - nI 1 = 0 then uf (uf f 7 (upd (f 7) q (f 7 q - nI 1))) 9 (upd (f 9) (x_slot n (n 7)) (nI q)) else uf f 7 (upd (f 7) q (f 7 q - nI 1))
def x_mrF (n : Nat → Nat) (f : Nat → Nat → Int32) (x : Int32) : Nat → Nat → Int32 := if inB x (n 1) = true then uf f 8 (upd (f 8) (cl32 x) (nI 1)) else f
def x_lw (n : Nat → Nat) (f : Nat → Nat → Int32) : Nat → Nat → Int32
  | 0, _ => -1
  | k + 1, t => if x_turn n f (nI t) = -1 then nI t else x_lw n f k (t + 1)
def x_lo (n : Nat → Nat) (f : Nat → Nat → Int32) : Int32 := if n 11 < 8 then x_lw n f 8 0 else -1
def x_loN (n : Nat → Nat) (f : Nat → Nat → Int32) : Nat → Nat := if x_lo n f = -1 then n else un n 11 (n 11 + 1)
def x_loF (n : Nat → Nat) (f : Nat → Nat → Int32) (r : Nat) : Nat → Nat → Int32 := if x_lo n f = -1 then f else uf (uf f 17 (upd (f 17) (cl32 (x_lo n f)) (nI r))) 18 (upd (f 18) (n 11) (x_lo n f))
def x_sl (u : Nat → Int32) (t k : Nat) : Nat → Int32 := fun j => if t ≤ j ∧ j < k then u (j + 1) else u j
theorem x_sl_0 (u : Nat → Int32) (t : Nat) : x_sl u t t = u := by
  funext j
  unfold x_sl
  rw [if_neg (by omega)]
theorem x_sl_s (u : Nat → Int32) {t k : Nat} (h : t ≤ k) : upd (x_sl u t k) k (x_sl u t k (k + 1)) = x_sl u t (k + 1) := by
  funext j
  unfold upd x_sl
  by_cases hj : j = k
  · subst hj
    rw [if_pos rfl, if_neg (by omega), if_pos (by omega)]
  · rw [if_neg hj]
    by_cases h1 : t ≤ j ∧ j < k
    · rw [if_pos h1, if_pos (by omega)]
    · rw [if_neg h1, if_neg (by omega)]
theorem x_tf_lt {f : Nat → Nat → Int32} {x : Int32} : ∀ (k t : Nat), t + k < 2 ^ 31 → x_tf f x k t = -1 ∨ ∃ j, t ≤ j ∧ j < t + k ∧ x_tf f x k t = nI j ∧ f 18 j = x ∧ ∀ i, t ≤ i → i < j → f 18 i ≠ x
  | 0, t, _ => Or.inl rfl
  | k + 1, t, h => by
    by_cases hx : f 18 t = x
    · exact Or.inr ⟨t, Nat.le_refl _, by omega, by simp [x_tf, hx], hx, fun i h1 h2 => absurd h2 (by omega)⟩
    · rcases x_tf_lt (f := f) (x := x) k (t + 1) (by omega) with h1 | ⟨j, h1, h2, h3, h4, h5⟩
      · exact Or.inl (by simp [x_tf, hx, h1])
      · refine Or.inr ⟨j, by omega, by omega, by simp [x_tf, hx, h3], h4, fun i hi hj => ?_⟩
        by_cases hi' : i = t
        · subst hi'; exact hx
        · exact h5 i (by omega) hj
/-! rows that come and go -/
def x_app (n : Nat → Nat) (f : Nat → Nat → Int32) (ra rb rg rk rt rs : Int32) : Nat → Nat → Int32 :=
  uf (uf (uf (uf (uf (uf (uf f 10 (upd (f 10) (x_pos n (n 9)) ra)) 11 (upd (f 11) (x_pos n (n 9)) rb)) 12 (upd (f 12) (x_pos n (n 9)) rg)) 13 (upd (f 13) (x_pos n (n 9)) rk)) 14 (upd (f 14) (x_pos n (n 9)) rt)) 15 (upd (f 15) (x_pos n (n 9)) (nI 0))) 16 (upd (f 16) (x_pos n (n 9)) rs)
def x_apF (n : Nat → Nat) (f : Nat → Nat → Int32) (ra rb rg rt rs : Int32) : Nat → Nat → Int32 :=
  if inB rt (n 0) = true then uf (x_app n f ra rb rg (x_cur n f rt) rt rs) 4 (upd (f 4) (cl32 rt) rg) else x_app n f ra rb rg (x_cur n f rt) rt rs
def x_dN (n : Nat → Nat) : Nat → Nat := un (un (un n 8 (x_pos n 1)) 9 (n 9 - 1)) 10 (n 10 + 1)
def x_f5 (n : Nat → Nat) (f : Nat → Nat → Int32) : Nat → Nat → Int32 := uf f 5 (upd (f 5) (cl32 (f 14 (n 8))) (f 12 (n 8)))
def x_fiN (n : Nat → Nat) (f : Nat → Nat → Int32) : Nat → Nat := if f 14 (n 8) = -1 then x_dN n else x_dN (x_gN n (x_f5 n f) (cl32 (f 13 (n 8))))
def x_fiF (n : Nat → Nat) (f : Nat → Nat → Int32) : Nat → Nat → Int32 := if f 14 (n 8) = -1 then f else x_gF n (x_f5 n f) (cl32 (f 13 (n 8)))
def x_lp (n : Nat → Nat) : Nat := x_pos n (n 9 - 1)
def x_lN (n : Nat → Nat) : Nat → Nat := un n 9 (n 9 - 1)
def x_tbN (n : Nat → Nat) (f : Nat → Nat → Int32) : Nat → Nat := if f 14 (x_lp n) = -1 then x_lN n else x_lN (x_gN n f (cl32 (f 12 (x_lp n))))
def x_tbF (n : Nat → Nat) (f : Nat → Nat → Int32) : Nat → Nat → Int32 := if f 14 (x_lp n) = -1 then f else uf (x_gF n f (cl32 (f 12 (x_lp n)))) 4 (upd (x_gF n f (cl32 (f 12 (x_lp n))) 4) (cl32 (f 14 (x_lp n))) (f 13 (x_lp n)))
theorem x_gN_o {n : Nat → Nat} {f : Nat → Nat → Int32} {q k : Nat} (h : k ≠ 7) : x_gN n f q k = n k := by
  unfold x_gN
  split
  · exact un_n h
  · rfl
theorem x_gF_o {n : Nat → Nat} {f : Nat → Nat → Int32} {q k : Nat} (h : k ≠ 7) (h2 : k ≠ 9) : x_gF n f q k = f k := by
  unfold x_gF
  split
  · rw [uf_n h2, uf_n h]
  · exact uf_n h
theorem x_gN_7 {n : Nat → Nat} {f : Nat → Nat → Int32} {q : Nat} : x_gN n f q 7 = n 7 ∨ x_gN n f q 7 = n 7 + 1 := by
  unfold x_gN
  split
  · exact Or.inr un_s
  · exact Or.inl rfl
theorem x_gN_bd {n : Nat → Nat} {f : Nat → Nat → Int32} {q : Nat} (h : x_bd n) (h7 : n 7 < n 1) : x_bd (x_gN n f q) := by
  have h8 := x_gN_7 (n := n) (f := f) (q := q)
  unfold x_bd at h ⊢
  rw [x_gN_o (k := 0) (by decide), x_gN_o (k := 1) (by decide), x_gN_o (k := 2) (by decide), x_gN_o (k := 3) (by decide), x_gN_o (k := 4) (by decide), x_gN_o (k := 5) (by decide), x_gN_o (k := 6) (by decide), x_gN_o (k := 8) (by decide), x_gN_o (k := 9) (by decide), x_gN_o (k := 10) (by decide), x_gN_o (k := 11) (by decide)]
  omega
/-- the oldest row has no register, or one and a name that it knows, which has a share; a place is left in the queue -/
def x_fs (n : Nat → Nat) (f : Nat → Nat → Int32) : Prop := f 14 (n 8) = -1 ∨ ∃ r q : Nat, f 14 (n 8) = nI r ∧ r < n 0 ∧ f 13 (n 8) = nI q ∧ q < n 1 ∧ ¬ f 7 q = 0 ∧ n 7 < n 1
def x_ts (n : Nat → Nat) (f : Nat → Nat → Int32) : Prop := f 14 (x_lp n) = -1 ∨ ∃ r q : Nat, f 14 (x_lp n) = nI r ∧ r < n 0 ∧ f 12 (x_lp n) = nI q ∧ q < n 1 ∧ ¬ f 7 q = 0 ∧ n 7 < n 1
end
section
set_option maxHeartbeats 4000000 in
set_option maxRecDepth 100000 in
theorem c_X2_placeCount (l : Launch) (dC : Nat → ClassId) (dI : Nat → Nat → Nat) (cs : ClassId × ClassId) (a n : Nat → Nat) (f : Nat → Nat → Int32) (hB : x_bd n)  : Met l yX2_placeCount wsX2_placeCount ({ frames := 0, cells := 0, slots := 0, locals := 0 }) (rdPc (dC, dI) vwCl (wX cs a n f) (tyl cs) [.ref (a 2)]) (QcRead (nI (n 2))) 0 0 (fun _ => False) := by
  refine rd_of (cc := cX2_placeCount) (maxL := 1) (ret := (some .int)) (own := RX2) (by decide) rfl rfl (Nat.le_of_ble_eq_true rfl) ?_
  intro p e s m below meth c hx hb hr hml hts hown hlocks hP hK ls hl
  have hl : lv_has ls 1 [(0, .ref (a 2))] := hl
  have hinX2 : ∀ w ∈ wsX20, w ∈ wsX2_placeCount := by decide +kernel
  obtain ⟨B1, B2, B3, B4, B5, B6, B7, B8, B9, B10, B11, B12, B13, B14, B15⟩ := id hB
  refine lv_aload_n hx hb dX2_placeCount_0 rfl (lv_at hl 0 rfl) ?_
  refine va_get (D := (dC, dI)) (ci := 3) (v := .ref (a 16)) (C := RX2) (T := TX2) (N := 10) hx hb hts hinX2 hown hK hP 2 rfl rfl 6 (by decide) (hts (.fieldLink RX2 30 "RenameRows$Ring" "state" "[I") (by decide +kernel)) (fun _ h9 => h9) rfl dX2_placeCount_1 ?_
  refine va_alen (D := (dC, dI)) hx hb hK hP 16 0 rfl rfl (v := nI (n 2)) rfl dX2_placeCount_4 ?_
  exact rd_iret hx hb hr hlocks dX2_placeCount_5

set_option maxHeartbeats 4000000 in
set_option maxRecDepth 100000 in
theorem c_X2_rowCount (l : Launch) (dC : Nat → ClassId) (dI : Nat → Nat → Nat) (cs : ClassId × ClassId) (a n : Nat → Nat) (f : Nat → Nat → Int32) (hB : x_bd n)  : Met l yX2_rowCount wsX2_rowCount ({ frames := 0, cells := 0, slots := 0, locals := 0 }) (rdPc (dC, dI) vwCl (wX cs a n f) (tyl cs) [.ref (a 2)]) (QcRead (nI (n 9))) 0 0 (fun _ => False) := by
  refine rd_of (cc := cX2_rowCount) (maxL := 1) (ret := (some .int)) (own := RX2) (by decide) rfl rfl (Nat.le_of_ble_eq_true rfl) ?_
  intro p e s m below meth c hx hb hr hml hts hown hlocks hP hK ls hl
  have hl : lv_has ls 1 [(0, .ref (a 2))] := hl
  have hinX2 : ∀ w ∈ wsX20, w ∈ wsX2_rowCount := by decide +kernel
  obtain ⟨B1, B2, B3, B4, B5, B6, B7, B8, B9, B10, B11, B12, B13, B14, B15⟩ := id hB
  refine lv_aload_n hx hb dX2_rowCount_0 rfl (lv_at hl 0 rfl) ?_
  refine va_get (D := (dC, dI)) (ci := 3) (v := .int (nI (n 9))) (C := RX2) (T := TX2) (N := 10) hx hb hts hinX2 hown hK hP 2 rfl rfl 8 (by decide) (hts (.fieldLink RX2 33 "RenameRows$Ring" "rows" "I") (by decide +kernel)) (fun _ h9 => h9) rfl dX2_rowCount_1 ?_
  exact rd_iret hx hb hr hlocks dX2_rowCount_4

set_option maxHeartbeats 4000000 in
set_option maxRecDepth 100000 in
theorem c_X2_doneCount (l : Launch) (dC : Nat → ClassId) (dI : Nat → Nat → Nat) (cs : ClassId × ClassId) (a n : Nat → Nat) (f : Nat → Nat → Int32) (hB : x_bd n)  : Met l yX2_doneCount wsX2_doneCount ({ frames := 0, cells := 0, slots := 0, locals := 0 }) (rdPc (dC, dI) vwCl (wX cs a n f) (tyl cs) [.ref (a 2)]) (QcRead (nI (n 10))) 0 0 (fun _ => False) := by
  refine rd_of (cc := cX2_doneCount) (maxL := 1) (ret := (some .int)) (own := RX2) (by decide) rfl rfl (Nat.le_of_ble_eq_true rfl) ?_
  intro p e s m below meth c hx hb hr hml hts hown hlocks hP hK ls hl
  have hl : lv_has ls 1 [(0, .ref (a 2))] := hl
  have hinX2 : ∀ w ∈ wsX20, w ∈ wsX2_doneCount := by decide +kernel
  obtain ⟨B1, B2, B3, B4, B5, B6, B7, B8, B9, B10, B11, B12, B13, B14, B15⟩ := id hB
  refine lv_aload_n hx hb dX2_doneCount_0 rfl (lv_at hl 0 rfl) ?_
  refine va_get (D := (dC, dI)) (ci := 3) (v := .int (nI (n 10))) (C := RX2) (T := TX2) (N := 10) hx hb hts hinX2 hown hK hP 2 rfl rfl 9 (by decide) (hts (.fieldLink RX2 37 "RenameRows$Ring" "done" "I") (by decide +kernel)) (fun _ h9 => h9) rfl dX2_doneCount_1 ?_
  exact rd_iret hx hb hr hlocks dX2_doneCount_4

set_option maxHeartbeats 4000000 in
set_option maxRecDepth 100000 in
theorem c_X2_rowsSinceBeginning (l : Launch) (dC : Nat → ClassId) (dI : Nat → Nat → Nat) (cs : ClassId × ClassId) (a n : Nat → Nat) (f : Nat → Nat → Int32) (hB : x_bd n)  : Met l yX2_rowsSinceBeginning wsX2_rowsSinceBeginning ({ frames := 0, cells := 0, slots := 0, locals := 0 }) (rdPc (dC, dI) vwCl (wX cs a n f) (tyl cs) [.ref (a 2)]) (QcRead (nI ((n 10) + (n 9)))) 0 0 (fun _ => False) := by
  refine rd_of (cc := cX2_rowsSinceBeginning) (maxL := 1) (ret := (some .int)) (own := RX2) (by decide) rfl rfl (Nat.le_of_ble_eq_true rfl) ?_
  intro p e s m below meth c hx hb hr hml hts hown hlocks hP hK ls hl
  have hl : lv_has ls 1 [(0, .ref (a 2))] := hl
  have hinX2 : ∀ w ∈ wsX20, w ∈ wsX2_rowsSinceBeginning := by decide +kernel
  obtain ⟨B1, B2, B3, B4, B5, B6, B7, B8, B9, B10, B11, B12, B13, B14, B15⟩ := id hB
  refine lv_aload_n hx hb dX2_rowsSinceBeginning_0 rfl (lv_at hl 0 rfl) ?_
  refine va_get (D := (dC, dI)) (ci := 3) (v := .int (nI (n 10))) (C := RX2) (T := TX2) (N := 10) hx hb hts hinX2 hown hK hP 2 rfl rfl 9 (by decide) (hts (.fieldLink RX2 37 "RenameRows$Ring" "done" "I") (by decide +kernel)) (fun _ h9 => h9) rfl dX2_rowsSinceBeginning_1 ?_
  refine lv_aload_n hx hb dX2_rowsSinceBeginning_4 rfl (lv_at hl 0 rfl) ?_
  refine va_get (D := (dC, dI)) (ci := 3) (v := .int (nI (n 9))) (C := RX2) (T := TX2) (N := 10) hx hb hts hinX2 hown hK hP 2 rfl rfl 8 (by decide) (hts (.fieldLink RX2 33 "RenameRows$Ring" "rows" "I") (by decide +kernel)) (fun _ h9 => h9) rfl dX2_rowsSinceBeginning_5 ?_
  refine lv_iadd hx hb dX2_rowsSinceBeginning_8 ?_
  refine tp_eq (nI_add (n 10) (n 9)) ?_
  exact rd_iret hx hb hr hlocks dX2_rowsSinceBeginning_9

set_option maxHeartbeats 4000000 in
set_option maxRecDepth 100000 in
theorem c_X2_isFull (l : Launch) (dC : Nat → ClassId) (dI : Nat → Nat → Nat) (cs : ClassId × ClassId) (a n : Nat → Nat) (f : Nat → Nat → Int32) (hB : x_bd n)  : Met l yX2_isFull wsX2_isFull ({ frames := 0, cells := 0, slots := 0, locals := 0 }) (rdPc (dC, dI) vwCl (wX cs a n f) (tyl cs) [.ref (a 2)]) (QcRead (b2i (decide (n 2 ≤ n 9)))) 0 0 (fun _ => False) := by
  refine rd_of (cc := cX2_isFull) (maxL := 1) (ret := (some .boolean)) (own := RX2) (by decide) rfl rfl (Nat.le_of_ble_eq_true rfl) ?_
  intro p e s m below meth c hx hb hr hml hts hown hlocks hP hK ls hl
  have hl : lv_has ls 1 [(0, .ref (a 2))] := hl
  have hinX2 : ∀ w ∈ wsX20, w ∈ wsX2_isFull := by decide +kernel
  obtain ⟨B1, B2, B3, B4, B5, B6, B7, B8, B9, B10, B11, B12, B13, B14, B15⟩ := id hB
  refine lv_aload_n hx hb dX2_isFull_0 rfl (lv_at hl 0 rfl) ?_
  refine va_get (D := (dC, dI)) (ci := 3) (v := .int (nI (n 9))) (C := RX2) (T := TX2) (N := 10) hx hb hts hinX2 hown hK hP 2 rfl rfl 8 (by decide) (hts (.fieldLink RX2 33 "RenameRows$Ring" "rows" "I") (by decide +kernel)) (fun _ h9 => h9) rfl dX2_isFull_1 ?_
  refine lv_aload_n hx hb dX2_isFull_4 rfl (lv_at hl 0 rfl) ?_
  refine va_get (D := (dC, dI)) (ci := 3) (v := .ref (a 16)) (C := RX2) (T := TX2) (N := 10) hx hb hts hinX2 hown hK hP 2 rfl rfl 6 (by decide) (hts (.fieldLink RX2 30 "RenameRows$Ring" "state" "[I") (by decide +kernel)) (fun _ h9 => h9) rfl dX2_isFull_5 ?_
  refine va_alen (D := (dC, dI)) hx hb hK hP 16 0 rfl rfl (v := nI (n 2)) rfl dX2_isFull_8 ?_
  refine lv_icmp_lt (tgt := 16) hx hb dX2_isFull_9 (by decide) (fun c_1 => ?_) (fun c_1 => ?_)
  · have c_1 : (n 9) < (n 2) := (nI_ltI (by omega) (by omega)).mp c_1
    refine lv_iconst (v := nI 0) hx hb dX2_isFull_16 (by decide) ?_
    refine tp_eq (b_0 (by first | (simp [c_1]; done) | (simp [nI_0, c_1]; done) | (simp [c_1]; omega)) : _ = b2i (decide (n 2 ≤ n 9))) ?_
    exact rd_zret hx hb hr hlocks dX2_isFull_17
  · have c_1 : ¬ (n 9) < (n 2) := fun q => c_1 ((nI_ltI (by omega) (by omega)).mpr q)
    refine lv_iconst (v := nI 1) hx hb dX2_isFull_12 (by decide) ?_
    refine lv_goto (tgt := 17) hx hb dX2_isFull_13 (by decide) ?_
    refine tp_eq (b_1 (by first | (simp [c_1]; done) | (simp [nI_0, c_1]; done) | (simp [c_1]; omega)) : _ = b2i (decide (n 2 ≤ n 9))) ?_
    exact rd_zret hx hb hr hlocks dX2_isFull_17

set_option maxHeartbeats 4000000 in
set_option maxRecDepth 100000 in
theorem c_X2_isPlace (l : Launch) (dC : Nat → ClassId) (dI : Nat → Nat → Nat) (cs : ClassId × ClassId) (a n : Nat → Nat) (f : Nat → Nat → Int32) (x : Int32) (hB : x_bd n)  : Met l yX2_isPlace wsX2_isPlace ({ frames := 0, cells := 0, slots := 0, locals := 0 }) (rdPc (dC, dI) vwCl (wX cs a n f) (tyl cs) [.ref (a 2), .int x]) (QcRead (b2i (inB x (n 2)))) 0 0 (fun _ => False) := by
  refine rd_of (cc := cX2_isPlace) (maxL := 2) (ret := (some .boolean)) (own := RX2) (by decide) rfl rfl (Nat.le_of_ble_eq_true rfl) ?_
  intro p e s m below meth c hx hb hr hml hts hown hlocks hP hK ls hl
  have hl : lv_has ls 2 [(0, .ref (a 2)), (1, .int x)] := hl
  have hinX2 : ∀ w ∈ wsX20, w ∈ wsX2_isPlace := by decide +kernel
  obtain ⟨B1, B2, B3, B4, B5, B6, B7, B8, B9, B10, B11, B12, B13, B14, B15⟩ := id hB
  refine lv_iload_n hx hb dX2_isPlace_0 rfl (lv_at hl 1 rfl) ?_
  refine lv_if_lt (tgt := 17) hx hb dX2_isPlace_1 (by decide) (fun c_1 => ?_) (fun c_1 => ?_)
  · refine lv_iconst (v := nI 0) hx hb dX2_isPlace_17 (by decide) ?_
    refine tp_eq (b_0 (by first | exact inB_lt c_1 | exact inB_in c_1 c_2 | exact inB_ge' c_2) : _ = b2i (inB x (n 2))) ?_
    exact rd_zret hx hb hr hlocks dX2_isPlace_18
  · refine lv_iload_n hx hb dX2_isPlace_4 rfl (lv_at hl 1 rfl) ?_
    refine lv_aload_n hx hb dX2_isPlace_5 rfl (lv_at hl 0 rfl) ?_
    refine va_get (D := (dC, dI)) (ci := 3) (v := .ref (a 16)) (C := RX2) (T := TX2) (N := 10) hx hb hts hinX2 hown hK hP 2 rfl rfl 6 (by decide) (hts (.fieldLink RX2 30 "RenameRows$Ring" "state" "[I") (by decide +kernel)) (fun _ h9 => h9) rfl dX2_isPlace_6 ?_
    refine va_alen (D := (dC, dI)) hx hb hK hP 16 0 rfl rfl (v := nI (n 2)) rfl dX2_isPlace_9 ?_
    refine lv_icmp_ge (tgt := 17) hx hb dX2_isPlace_10 (by decide) (fun c_2 => ?_) (fun c_2 => ?_)
    · refine lv_iconst (v := nI 0) hx hb dX2_isPlace_17 (by decide) ?_
      refine tp_eq (b_0 (by first | exact inB_lt c_1 | exact inB_in c_1 c_2 | exact inB_ge' c_2) : _ = b2i (inB x (n 2))) ?_
      exact rd_zret hx hb hr hlocks dX2_isPlace_18
    · refine lv_iconst (v := nI 1) hx hb dX2_isPlace_13 (by decide) ?_
      refine lv_goto (tgt := 18) hx hb dX2_isPlace_14 (by decide) ?_
      refine tp_eq (b_1 (by first | exact inB_lt c_1 | exact inB_in c_1 c_2 | exact inB_ge' c_2) : _ = b2i (inB x (n 2))) ?_
      exact rd_zret hx hb hr hlocks dX2_isPlace_18

set_option maxHeartbeats 4000000 in
set_option maxRecDepth 100000 in
theorem c_X2_placeOfAge (l : Launch) (dC : Nat → ClassId) (dI : Nat → Nat → Nat) (cs : ClassId × ClassId) (a n : Nat → Nat) (f : Nat → Nat → Int32) (i : Nat) (hB : x_bd n) (h1 : i < 1000)  : Met l yX2_placeOfAge wsX2_placeOfAge ({ frames := 0, cells := 0, slots := 0, locals := 0 }) (rdPc (dC, dI) vwCl (wX cs a n f) (tyl cs) [.ref (a 2), .int (nI i)]) (QcRead (nI (x_pos n i))) 0 0 (fun _ => False) := by
  refine rd_of (cc := cX2_placeOfAge) (maxL := 3) (ret := (some .int)) (own := RX2) (by decide) rfl rfl (Nat.le_of_ble_eq_true rfl) ?_
  intro p e s m below meth c hx hb hr hml hts hown hlocks hP hK ls hl
  have hl : lv_has ls 3 [(0, .ref (a 2)), (1, .int (nI i))] := hl
  have hinX2 : ∀ w ∈ wsX20, w ∈ wsX2_placeOfAge := by decide +kernel
  obtain ⟨B1, B2, B3, B4, B5, B6, B7, B8, B9, B10, B11, B12, B13, B14, B15⟩ := id hB
  refine lv_aload_n hx hb dX2_placeOfAge_0 rfl (lv_at hl 0 rfl) ?_
  refine va_get (D := (dC, dI)) (ci := 3) (v := .int (nI (n 8))) (C := RX2) (T := TX2) (N := 10) hx hb hts hinX2 hown hK hP 2 rfl rfl 7 (by decide) (hts (.fieldLink RX2 51 "RenameRows$Ring" "oldest" "I") (by decide +kernel)) (fun _ h9 => h9) rfl dX2_placeOfAge_1 ?_
  refine lv_iload_n hx hb dX2_placeOfAge_4 rfl (lv_at hl 1 rfl) ?_
  refine lv_iadd hx hb dX2_placeOfAge_5 ?_
  refine tp_eq (nI_add (n 8) i) ?_
  refine lv_istore_n (lv' := [(2, .int (nI ((n 8) + i))), (0, .ref (a 2)), (1, .int (nI i))]) hx hb dX2_placeOfAge_6 rfl hl (by decide) rfl (fun ls hl => ?_)
  refine lv_iload_n hx hb dX2_placeOfAge_7 rfl (lv_at hl 0 rfl) ?_
  refine lv_aload_n hx hb dX2_placeOfAge_8 rfl (lv_at hl 1 rfl) ?_
  refine va_get (D := (dC, dI)) (ci := 3) (v := .ref (a 16)) (C := RX2) (T := TX2) (N := 10) hx hb hts hinX2 hown hK hP 2 rfl rfl 6 (by decide) (hts (.fieldLink RX2 30 "RenameRows$Ring" "state" "[I") (by decide +kernel)) (fun _ h9 => h9) rfl dX2_placeOfAge_9 ?_
  refine va_alen (D := (dC, dI)) hx hb hK hP 16 0 rfl rfl (v := nI (n 2)) rfl dX2_placeOfAge_12 ?_
  refine lv_icmp_ge (tgt := 20) hx hb dX2_placeOfAge_13 (by decide) (fun c_1 => ?_) (fun c_1 => ?_)
  · have c_1 : (n 2) ≤ ((n 8) + i) := (nI_leI (by omega) (by omega)).mp c_1
    refine lv_iload_n hx hb dX2_placeOfAge_20 rfl (lv_at hl 0 rfl) ?_
    refine lv_aload_n hx hb dX2_placeOfAge_21 rfl (lv_at hl 1 rfl) ?_
    refine va_get (D := (dC, dI)) (ci := 3) (v := .ref (a 16)) (C := RX2) (T := TX2) (N := 10) hx hb hts hinX2 hown hK hP 2 rfl rfl 6 (by decide) (hts (.fieldLink RX2 30 "RenameRows$Ring" "state" "[I") (by decide +kernel)) (fun _ h9 => h9) rfl dX2_placeOfAge_22 ?_
    refine va_alen (D := (dC, dI)) hx hb hK hP 16 0 rfl rfl (v := nI (n 2)) rfl dX2_placeOfAge_25 ?_
    refine lv_isub hx hb dX2_placeOfAge_26 ?_
    refine tp_eq (pk_sub (by omega)) ?_
    refine tp_eq (show _ = nI (x_pos n i) by exact congrArg nI (by unfold x_pos; split <;> omega)) ?_
    exact rd_iret hx hb hr hlocks dX2_placeOfAge_27
  · have c_1 : ¬ (n 2) ≤ ((n 8) + i) := fun q => c_1 ((nI_leI (by omega) (by omega)).mpr q)
    refine lv_iload_n hx hb dX2_placeOfAge_16 rfl (lv_at hl 0 rfl) ?_
    refine lv_goto (tgt := 27) hx hb dX2_placeOfAge_17 (by decide) ?_
    refine tp_eq (show _ = nI (x_pos n i) by exact congrArg nI (by unfold x_pos; split <;> omega)) ?_
    exact rd_iret hx hb hr hlocks dX2_placeOfAge_27

set_option maxHeartbeats 4000000 in
set_option maxRecDepth 100000 in
theorem c_X2_ageOf (l : Launch) (dC : Nat → ClassId) (dI : Nat → Nat → Nat) (cs : ClassId × ClassId) (a n : Nat → Nat) (f : Nat → Nat → Int32) (j : Nat) (hB : x_bd n) (h1 : j < n 2)  : Met l yX2_ageOf wsX2_ageOf ({ frames := 0, cells := 0, slots := 0, locals := 0 }) (rdPc (dC, dI) vwCl (wX cs a n f) (tyl cs) [.ref (a 2), .int (nI j)]) (QcRead (nI (x_age n j))) 0 0 (fun _ => False) := by
  refine rd_of (cc := cX2_ageOf) (maxL := 2) (ret := (some .int)) (own := RX2) (by decide) rfl rfl (Nat.le_of_ble_eq_true rfl) ?_
  intro p e s m below meth c hx hb hr hml hts hown hlocks hP hK ls hl
  have hl : lv_has ls 2 [(0, .ref (a 2)), (1, .int (nI j))] := hl
  have hinX2 : ∀ w ∈ wsX20, w ∈ wsX2_ageOf := by decide +kernel
  obtain ⟨B1, B2, B3, B4, B5, B6, B7, B8, B9, B10, B11, B12, B13, B14, B15⟩ := id hB
  refine lv_iload_n hx hb dX2_ageOf_0 rfl (lv_at hl 1 rfl) ?_
  refine lv_aload_n hx hb dX2_ageOf_1 rfl (lv_at hl 0 rfl) ?_
  refine va_get (D := (dC, dI)) (ci := 3) (v := .int (nI (n 8))) (C := RX2) (T := TX2) (N := 10) hx hb hts hinX2 hown hK hP 2 rfl rfl 7 (by decide) (hts (.fieldLink RX2 51 "RenameRows$Ring" "oldest" "I") (by decide +kernel)) (fun _ h9 => h9) rfl dX2_ageOf_2 ?_
  refine lv_icmp_lt (tgt := 17) hx hb dX2_ageOf_5 (by decide) (fun c_1 => ?_) (fun c_1 => ?_)
  · have c_1 : j < (n 8) := (nI_ltI (by omega) (by omega)).mp c_1
    refine lv_iload_n hx hb dX2_ageOf_17 rfl (lv_at hl 1 rfl) ?_
    refine lv_aload_n hx hb dX2_ageOf_18 rfl (lv_at hl 0 rfl) ?_
    refine va_get (D := (dC, dI)) (ci := 3) (v := .int (nI (n 8))) (C := RX2) (T := TX2) (N := 10) hx hb hts hinX2 hown hK hP 2 rfl rfl 7 (by decide) (hts (.fieldLink RX2 51 "RenameRows$Ring" "oldest" "I") (by decide +kernel)) (fun _ h9 => h9) rfl dX2_ageOf_19 ?_
    refine lv_isub hx hb dX2_ageOf_22 ?_
    refine lv_aload_n hx hb dX2_ageOf_23 rfl (lv_at hl 0 rfl) ?_
    refine va_get (D := (dC, dI)) (ci := 3) (v := .ref (a 16)) (C := RX2) (T := TX2) (N := 10) hx hb hts hinX2 hown hK hP 2 rfl rfl 6 (by decide) (hts (.fieldLink RX2 30 "RenameRows$Ring" "state" "[I") (by decide +kernel)) (fun _ h9 => h9) rfl dX2_ageOf_24 ?_
    refine va_alen (D := (dC, dI)) hx hb hK hP 16 0 rfl rfl (v := nI (n 2)) rfl dX2_ageOf_27 ?_
    refine lv_iadd hx hb dX2_ageOf_28 ?_
    refine tp_eq (nI_sa (by omega)) ?_
    refine tp_eq (show _ = nI (x_age n j) by exact congrArg nI (by unfold x_age; split <;> omega)) ?_
    exact rd_iret hx hb hr hlocks dX2_ageOf_29
  · have c_1 : ¬ j < (n 8) := fun q => c_1 ((nI_ltI (by omega) (by omega)).mpr q)
    refine lv_iload_n hx hb dX2_ageOf_8 rfl (lv_at hl 1 rfl) ?_
    refine lv_aload_n hx hb dX2_ageOf_9 rfl (lv_at hl 0 rfl) ?_
    refine va_get (D := (dC, dI)) (ci := 3) (v := .int (nI (n 8))) (C := RX2) (T := TX2) (N := 10) hx hb hts hinX2 hown hK hP 2 rfl rfl 7 (by decide) (hts (.fieldLink RX2 51 "RenameRows$Ring" "oldest" "I") (by decide +kernel)) (fun _ h9 => h9) rfl dX2_ageOf_10 ?_
    refine lv_isub hx hb dX2_ageOf_13 ?_
    refine tp_eq (pk_sub (by omega)) ?_
    refine lv_goto (tgt := 29) hx hb dX2_ageOf_14 (by decide) ?_
    refine tp_eq (show _ = nI (x_age n j) by exact congrArg nI (by unfold x_age; split <;> omega)) ?_
    exact rd_iret hx hb hr hlocks dX2_ageOf_29

set_option maxHeartbeats 4000000 in
set_option maxRecDepth 100000 in
theorem c_X2_holdsRow (l : Launch) (dC : Nat → ClassId) (dI : Nat → Nat → Nat) (cs : ClassId × ClassId) (a n : Nat → Nat) (f : Nat → Nat → Int32) (x : Int32) (hB : x_bd n)  : Met l yX2_holdsRow wsX2_holdsRow ({ frames := 1, cells := 0, slots := 0, locals := 21 }) (rdPc (dC, dI) vwCl (wX cs a n f) (tyl cs) [.ref (a 2), .int x]) (QcRead (b2i (x_holds n x))) 0 0 (fun _ => False) := by
  refine rd_of (cc := cX2_holdsRow) (maxL := 2) (ret := (some .boolean)) (own := RX2) (by decide) rfl rfl (Nat.le_of_ble_eq_true rfl) ?_
  intro p e s m below meth c hx hb hr hml hts hown hlocks hP hK ls hl
  have hl : lv_has ls 2 [(0, .ref (a 2)), (1, .int x)] := hl
  have hinX2 : ∀ w ∈ wsX20, w ∈ wsX2_holdsRow := by decide +kernel
  obtain ⟨B1, B2, B3, B4, B5, B6, B7, B8, B9, B10, B11, B12, B13, B14, B15⟩ := id hB
  refine lv_aload_n hx hb dX2_holdsRow_0 rfl (lv_at hl 0 rfl) ?_
  refine lv_iload_n hx hb dX2_holdsRow_1 rfl (lv_at hl 1 rfl) ?_
  refine W.callR (W.runV (As := [.int x]) (rest := []) ⟨hx, hb, hml, hown, hts⟩ (c_X2_isPlace l dC dI cs a n f x hB) (cwV 1 hts gX2_holdsRow_X2_isPlace rfl rfl rfl (by decide +kernel) ⟨Nat.le_of_ble_eq_true rfl, Nat.le_of_ble_eq_true rfl⟩) (rd_preV (q := (RX2, TX2, 10)) hP hK 2 rfl rfl) rfl rfl hl.1 rfl (lv_room (Nat.le_of_ble_eq_true rfl)) dX2_holdsRow_2 ⟨Nat.zero_le _, Nat.zero_le _⟩) ?_
  refine W.eq (g2 := F0 m 5 ls (.int (b2i (inB x (n 2))) :: [])) rfl ?_
  refine lv_if_eq (tgt := 24) hx hb dX2_holdsRow_5 (by decide) (fun c_1 => ?_) (fun c_1 => ?_)
  · have c_1 : inB x (n 2) = false := b2i_f c_1
    refine lv_iconst (v := nI 0) hx hb dX2_holdsRow_24 (by decide) ?_
    refine tp_eq (b_0 (by first | (simp [x_holds, c_1]; done) | (rw [x_holds_nI hjx (by omega)]; simp; omega)) : _ = b2i (x_holds n x)) ?_
    exact rd_zret hx hb hr hlocks dX2_holdsRow_25
  · have c_1 : inB x (n 2) = true := b2i_t c_1
    obtain ⟨jx, hjx, rfl⟩ := inB_t c_1 (by omega)
    refine lv_aload_n hx hb dX2_holdsRow_8 rfl (lv_at hl 0 rfl) ?_
    refine lv_iload_n hx hb dX2_holdsRow_9 rfl (lv_at hl 1 rfl) ?_
    refine W.callR (W.runV (As := [.int (nI jx)]) (rest := []) ⟨hx, hb, hml, hown, hts⟩ (c_X2_ageOf l dC dI cs a n f jx hB (by omega)) (cwV 1 hts gX2_holdsRow_X2_ageOf rfl rfl rfl (by decide +kernel) ⟨Nat.le_of_ble_eq_true rfl, Nat.le_of_ble_eq_true rfl⟩) (rd_preV (q := (RX2, TX2, 10)) hP hK 2 rfl rfl) rfl rfl hl.1 rfl (lv_room (Nat.le_of_ble_eq_true rfl)) dX2_holdsRow_10 ⟨Nat.zero_le _, Nat.zero_le _⟩) ?_
    refine W.eq (g2 := F0 m 13 ls (.int (nI (x_age n jx)) :: [])) rfl ?_
    have k_2 := x_age_lt (n := n) (p := jx) (by omega) (by omega)
    refine lv_aload_n hx hb dX2_holdsRow_13 rfl (lv_at hl 0 rfl) ?_
    refine va_get (D := (dC, dI)) (ci := 3) (v := .int (nI (n 9))) (C := RX2) (T := TX2) (N := 10) hx hb hts hinX2 hown hK hP 2 rfl rfl 8 (by decide) (hts (.fieldLink RX2 33 "RenameRows$Ring" "rows" "I") (by decide +kernel)) (fun _ h9 => h9) rfl dX2_holdsRow_14 ?_
    refine lv_icmp_ge (tgt := 24) hx hb dX2_holdsRow_17 (by decide) (fun c_3 => ?_) (fun c_3 => ?_)
    · have c_3 : (n 9) ≤ (x_age n jx) := (nI_leI (by omega) (by omega)).mp c_3
      refine lv_iconst (v := nI 0) hx hb dX2_holdsRow_24 (by decide) ?_
      refine tp_eq (b_0 (by first | (simp [x_holds, c_1]; done) | (rw [x_holds_nI hjx (by omega)]; simp; omega)) : _ = b2i (x_holds n (nI jx))) ?_
      exact rd_zret hx hb hr hlocks dX2_holdsRow_25
    · have c_3 : ¬ (n 9) ≤ (x_age n jx) := fun q => c_3 ((nI_leI (by omega) (by omega)).mpr q)
      refine lv_iconst (v := nI 1) hx hb dX2_holdsRow_20 (by decide) ?_
      refine lv_goto (tgt := 25) hx hb dX2_holdsRow_21 (by decide) ?_
      refine tp_eq (b_1 (by first | (simp [x_holds, c_1]; done) | (rw [x_holds_nI hjx (by omega)]; simp; omega)) : _ = b2i (x_holds n (nI jx))) ?_
      exact rd_zret hx hb hr hlocks dX2_holdsRow_25

set_option maxHeartbeats 4000000 in
set_option maxRecDepth 100000 in
theorem c_X2_isInState (l : Launch) (dC : Nat → ClassId) (dI : Nat → Nat → Nat) (cs : ClassId × ClassId) (a n : Nat → Nat) (f : Nat → Nat → Int32) (x : Int32) (w : Int32) (hB : x_bd n)  : Met l yX2_isInState wsX2_isInState ({ frames := 2, cells := 0, slots := 0, locals := 42 }) (rdPc (dC, dI) vwCl (wX cs a n f) (tyl cs) [.ref (a 2), .int x, .int w]) (QcRead (b2i (x_isIn n f x w))) 0 0 (fun _ => False) := by
  refine rd_of (cc := cX2_isInState) (maxL := 3) (ret := (some .boolean)) (own := RX2) (by decide) rfl rfl (Nat.le_of_ble_eq_true rfl) ?_
  intro p e s m below meth c hx hb hr hml hts hown hlocks hP hK ls hl
  have hl : lv_has ls 3 [(0, .ref (a 2)), (1, .int x), (2, .int w)] := hl
  have hinX2 : ∀ w ∈ wsX20, w ∈ wsX2_isInState := by decide +kernel
  obtain ⟨B1, B2, B3, B4, B5, B6, B7, B8, B9, B10, B11, B12, B13, B14, B15⟩ := id hB
  refine lv_aload_n hx hb dX2_isInState_0 rfl (lv_at hl 0 rfl) ?_
  refine lv_iload_n hx hb dX2_isInState_1 rfl (lv_at hl 1 rfl) ?_
  refine W.callR (W.runV (As := [.int x]) (rest := []) ⟨hx, hb, hml, hown, hts⟩ (c_X2_holdsRow l dC dI cs a n f x hB) (cwV 1 hts gX2_isInState_X2_holdsRow rfl rfl rfl (by decide +kernel) ⟨Nat.le_of_ble_eq_true rfl, Nat.le_of_ble_eq_true rfl⟩) (rd_preV (q := (RX2, TX2, 10)) hP hK 2 rfl rfl) rfl rfl hl.1 rfl (lv_room (Nat.le_of_ble_eq_true rfl)) dX2_isInState_2 ⟨Nat.zero_le _, Nat.zero_le _⟩) ?_
  refine W.eq (g2 := F0 m 5 ls (.int (b2i (x_holds n x)) :: [])) rfl ?_
  refine lv_if_eq (tgt := 22) hx hb dX2_isInState_5 (by decide) (fun c_1 => ?_) (fun c_1 => ?_)
  · have c_1 : x_holds n x = false := b2i_f c_1
    refine lv_iconst (v := nI 0) hx hb dX2_isInState_22 (by decide) ?_
    refine tp_eq (b_0 (by first | (simp [x_isIn, c_1]; done) | (simp [nI_0, x_isIn, c_1]; done) | (simp [x_isIn, c_1]; omega)) : _ = b2i (x_isIn n f x w)) ?_
    exact rd_zret hx hb hr hlocks dX2_isInState_23
  · have c_1 : x_holds n x = true := b2i_t c_1
    obtain ⟨jx, hjx, rfl⟩ := x_holds_t c_1 (by omega)
    refine lv_aload_n hx hb dX2_isInState_8 rfl (lv_at hl 0 rfl) ?_
    refine va_get (D := (dC, dI)) (ci := 3) (v := .ref (a 16)) (C := RX2) (T := TX2) (N := 10) hx hb hts hinX2 hown hK hP 2 rfl rfl 6 (by decide) (hts (.fieldLink RX2 30 "RenameRows$Ring" "state" "[I") (by decide +kernel)) (fun _ h9 => h9) rfl dX2_isInState_9 ?_
    refine lv_iload_n hx hb dX2_isInState_12 rfl (lv_at hl 1 rfl) ?_
    refine ar_ld (D := (dC, dI)) (n := n 2) (f := f 16) hx hb hK hP 16 0 rfl rfl (by omega) (by omega) dX2_isInState_13 ?_
    refine lv_iload_n hx hb dX2_isInState_14 rfl (lv_at hl 2 rfl) ?_
    refine lv_icmp_ne (tgt := 22) hx hb dX2_isInState_15 (by decide) (fun c_2 => ?_) (fun c_2 => ?_)
    · refine lv_iconst (v := nI 0) hx hb dX2_isInState_22 (by decide) ?_
      refine tp_eq (b_0 (by first | (simp [x_isIn, c_1, c_2, cl32_nI (show jx < 2 ^ 31 by omega)]; done) | (simp [nI_0, x_isIn, c_1, c_2, cl32_nI (show jx < 2 ^ 31 by omega)]; done) | (simp [x_isIn, c_1, c_2, cl32_nI (show jx < 2 ^ 31 by omega)]; omega)) : _ = b2i (x_isIn n f (nI jx) w)) ?_
      exact rd_zret hx hb hr hlocks dX2_isInState_23
    · refine lv_iconst (v := nI 1) hx hb dX2_isInState_18 (by decide) ?_
      refine lv_goto (tgt := 23) hx hb dX2_isInState_19 (by decide) ?_
      refine tp_eq (b_1 (by first | (simp [x_isIn, c_1, c_2, cl32_nI (show jx < 2 ^ 31 by omega)]; done) | (simp [nI_0, x_isIn, c_1, c_2, cl32_nI (show jx < 2 ^ 31 by omega)]; done) | (simp [x_isIn, c_1, c_2, cl32_nI (show jx < 2 ^ 31 by omega)]; omega)) : _ = b2i (x_isIn n f (nI jx) w)) ?_
      exact rd_zret hx hb hr hlocks dX2_isInState_23

set_option maxHeartbeats 4000000 in
set_option maxRecDepth 100000 in
theorem c_X2_oldestPlace (l : Launch) (dC : Nat → ClassId) (dI : Nat → Nat → Nat) (cs : ClassId × ClassId) (a n : Nat → Nat) (f : Nat → Nat → Int32) (hB : x_bd n)  : Met l yX2_oldestPlace wsX2_oldestPlace ({ frames := 0, cells := 0, slots := 0, locals := 0 }) (rdPc (dC, dI) vwCl (wX cs a n f) (tyl cs) [.ref (a 2)]) (QcRead (x_old n)) 0 0 (fun _ => False) := by
  refine rd_of (cc := cX2_oldestPlace) (maxL := 1) (ret := (some .int)) (own := RX2) (by decide) rfl rfl (Nat.le_of_ble_eq_true rfl) ?_
  intro p e s m below meth c hx hb hr hml hts hown hlocks hP hK ls hl
  have hl : lv_has ls 1 [(0, .ref (a 2))] := hl
  have hinX2 : ∀ w ∈ wsX20, w ∈ wsX2_oldestPlace := by decide +kernel
  obtain ⟨B1, B2, B3, B4, B5, B6, B7, B8, B9, B10, B11, B12, B13, B14, B15⟩ := id hB
  refine lv_aload_n hx hb dX2_oldestPlace_0 rfl (lv_at hl 0 rfl) ?_
  refine va_get (D := (dC, dI)) (ci := 3) (v := .int (nI (n 9))) (C := RX2) (T := TX2) (N := 10) hx hb hts hinX2 hown hK hP 2 rfl rfl 8 (by decide) (hts (.fieldLink RX2 33 "RenameRows$Ring" "rows" "I") (by decide +kernel)) (fun _ h9 => h9) rfl dX2_oldestPlace_1 ?_
  refine lv_if_ne (tgt := 11) hx hb dX2_oldestPlace_4 (by decide) (fun c_1 => ?_) (fun c_1 => ?_)
  · have c_1 : ¬ (n 9) = 0 := fun q => c_1 ((nI_z (by omega)).mpr q)
    refine lv_aload_n hx hb dX2_oldestPlace_11 rfl (lv_at hl 0 rfl) ?_
    refine va_get (D := (dC, dI)) (ci := 3) (v := .int (nI (n 8))) (C := RX2) (T := TX2) (N := 10) hx hb hts hinX2 hown hK hP 2 rfl rfl 7 (by decide) (hts (.fieldLink RX2 51 "RenameRows$Ring" "oldest" "I") (by decide +kernel)) (fun _ h9 => h9) rfl dX2_oldestPlace_12 ?_
    refine tp_eq (show _ = x_old n by first | (simp [x_old, c_1]; done) | (simp [nI_0, x_old, c_1]; done) | (simp [x_old, c_1]; omega)) ?_
    exact rd_iret hx hb hr hlocks dX2_oldestPlace_15
  · have c_1 : (n 9) = 0 := (nI_z (by omega)).mp c_1
    refine lv_iconst (v := (-1)) hx hb dX2_oldestPlace_7 (by decide) ?_
    refine lv_goto (tgt := 15) hx hb dX2_oldestPlace_8 (by decide) ?_
    refine tp_eq (show _ = x_old n by first | (simp [x_old, c_1]; done) | (simp [nI_0, x_old, c_1]; done) | (simp [x_old, c_1]; omega)) ?_
    exact rd_iret hx hb hr hlocks dX2_oldestPlace_15

set_option maxHeartbeats 4000000 in
set_option maxRecDepth 100000 in
theorem c_X2_lastPlace (l : Launch) (dC : Nat → ClassId) (dI : Nat → Nat → Nat) (cs : ClassId × ClassId) (a n : Nat → Nat) (f : Nat → Nat → Int32) (hB : x_bd n)  : Met l yX2_lastPlace wsX2_lastPlace ({ frames := 1, cells := 0, slots := 0, locals := 22 }) (rdPc (dC, dI) vwCl (wX cs a n f) (tyl cs) [.ref (a 2)]) (QcRead (x_last n)) 0 0 (fun _ => False) := by
  refine rd_of (cc := cX2_lastPlace) (maxL := 1) (ret := (some .int)) (own := RX2) (by decide) rfl rfl (Nat.le_of_ble_eq_true rfl) ?_
  intro p e s m below meth c hx hb hr hml hts hown hlocks hP hK ls hl
  have hl : lv_has ls 1 [(0, .ref (a 2))] := hl
  have hinX2 : ∀ w ∈ wsX20, w ∈ wsX2_lastPlace := by decide +kernel
  obtain ⟨B1, B2, B3, B4, B5, B6, B7, B8, B9, B10, B11, B12, B13, B14, B15⟩ := id hB
  refine lv_aload_n hx hb dX2_lastPlace_0 rfl (lv_at hl 0 rfl) ?_
  refine va_get (D := (dC, dI)) (ci := 3) (v := .int (nI (n 9))) (C := RX2) (T := TX2) (N := 10) hx hb hts hinX2 hown hK hP 2 rfl rfl 8 (by decide) (hts (.fieldLink RX2 33 "RenameRows$Ring" "rows" "I") (by decide +kernel)) (fun _ h9 => h9) rfl dX2_lastPlace_1 ?_
  refine lv_if_ne (tgt := 11) hx hb dX2_lastPlace_4 (by decide) (fun c_1 => ?_) (fun c_1 => ?_)
  · have c_1 : ¬ (n 9) = 0 := fun q => c_1 ((nI_z (by omega)).mpr q)
    refine lv_aload_n hx hb dX2_lastPlace_11 rfl (lv_at hl 0 rfl) ?_
    refine lv_aload_n hx hb dX2_lastPlace_12 rfl (lv_at hl 0 rfl) ?_
    refine va_get (D := (dC, dI)) (ci := 3) (v := .int (nI (n 9))) (C := RX2) (T := TX2) (N := 10) hx hb hts hinX2 hown hK hP 2 rfl rfl 8 (by decide) (hts (.fieldLink RX2 33 "RenameRows$Ring" "rows" "I") (by decide +kernel)) (fun _ h9 => h9) rfl dX2_lastPlace_13 ?_
    refine lv_iconst (v := nI 1) hx hb dX2_lastPlace_16 (by decide) ?_
    refine lv_isub hx hb dX2_lastPlace_17 ?_
    refine tp_eq (pk_sub (by omega)) ?_
    refine W.callR (W.runV (As := [.int (nI ((n 9) - 1))]) (rest := []) ⟨hx, hb, hml, hown, hts⟩ (c_X2_placeOfAge l dC dI cs a n f ((n 9) - 1) hB (by omega)) (cwV 1 hts gX2_lastPlace_X2_placeOfAge rfl rfl rfl (by decide +kernel) ⟨Nat.le_of_ble_eq_true rfl, Nat.le_of_ble_eq_true rfl⟩) (rd_preV (q := (RX2, TX2, 10)) hP hK 2 rfl rfl) rfl rfl hl.1 rfl (lv_room (Nat.le_of_ble_eq_true rfl)) dX2_lastPlace_18 ⟨Nat.zero_le _, Nat.zero_le _⟩) ?_
    refine W.eq (g2 := F0 m 21 ls (.int (nI (x_pos n ((n 9) - 1))) :: [])) rfl ?_
    have k_2 := x_pos_lt (n := n) (i := ((n 9) - 1)) (by omega) (by omega)
    refine tp_eq (show _ = x_last n by first | (simp [x_last, c_1]; done) | (simp [nI_0, x_last, c_1]; done) | (simp [x_last, c_1]; omega)) ?_
    exact rd_iret hx hb hr hlocks dX2_lastPlace_21
  · have c_1 : (n 9) = 0 := (nI_z (by omega)).mp c_1
    refine lv_iconst (v := (-1)) hx hb dX2_lastPlace_7 (by decide) ?_
    refine lv_goto (tgt := 21) hx hb dX2_lastPlace_8 (by decide) ?_
    refine tp_eq (show _ = x_last n by first | (simp [x_last, c_1]; done) | (simp [nI_0, x_last, c_1]; done) | (simp [x_last, c_1]; omega)) ?_
    exact rd_iret hx hb hr hlocks dX2_lastPlace_21

set_option maxHeartbeats 4000000 in
set_option maxRecDepth 100000 in
theorem c_X2_readAAt (l : Launch) (dC : Nat → ClassId) (dI : Nat → Nat → Nat) (cs : ClassId × ClassId) (a n : Nat → Nat) (f : Nat → Nat → Int32) (x : Int32) (hB : x_bd n)  : Met l yX2_readAAt wsX2_readAAt ({ frames := 1, cells := 0, slots := 0, locals := 21 }) (rdPc (dC, dI) vwCl (wX cs a n f) (tyl cs) [.ref (a 2), .int x]) (QcRead (x_at 10 n f x)) 0 0 (fun _ => False) := by
  refine rd_of (cc := cX2_readAAt) (maxL := 2) (ret := (some .int)) (own := RX2) (by decide) rfl rfl (Nat.le_of_ble_eq_true rfl) ?_
  intro p e s m below meth c hx hb hr hml hts hown hlocks hP hK ls hl
  have hl : lv_has ls 2 [(0, .ref (a 2)), (1, .int x)] := hl
  have hinX2 : ∀ w ∈ wsX20, w ∈ wsX2_readAAt := by decide +kernel
  obtain ⟨B1, B2, B3, B4, B5, B6, B7, B8, B9, B10, B11, B12, B13, B14, B15⟩ := id hB
  refine lv_aload_n hx hb dX2_readAAt_0 rfl (lv_at hl 0 rfl) ?_
  refine lv_iload_n hx hb dX2_readAAt_1 rfl (lv_at hl 1 rfl) ?_
  refine W.callR (W.runV (As := [.int x]) (rest := []) ⟨hx, hb, hml, hown, hts⟩ (c_X2_isPlace l dC dI cs a n f x hB) (cwV 1 hts gX2_readAAt_X2_isPlace rfl rfl rfl (by decide +kernel) ⟨Nat.le_of_ble_eq_true rfl, Nat.le_of_ble_eq_true rfl⟩) (rd_preV (q := (RX2, TX2, 10)) hP hK 2 rfl rfl) rfl rfl hl.1 rfl (lv_room (Nat.le_of_ble_eq_true rfl)) dX2_readAAt_2 ⟨Nat.zero_le _, Nat.zero_le _⟩) ?_
  refine W.eq (g2 := F0 m 5 ls (.int (b2i (inB x (n 2))) :: [])) rfl ?_
  refine lv_if_eq (tgt := 17) hx hb dX2_readAAt_5 (by decide) (fun c_1 => ?_) (fun c_1 => ?_)
  · have c_1 : inB x (n 2) = false := b2i_f c_1
    refine lv_iconst (v := (-1)) hx hb dX2_readAAt_17 (by decide) ?_
    refine tp_eq (show _ = x_at 10 n f x by first | (simp [x_at, c_1]; done) | (simp [nI_0, x_at, c_1]; done) | (simp [x_at, c_1]; omega)) ?_
    exact rd_iret hx hb hr hlocks dX2_readAAt_18
  · have c_1 : inB x (n 2) = true := b2i_t c_1
    obtain ⟨jx, hjx, rfl⟩ := inB_t c_1 (by omega)
    refine lv_aload_n hx hb dX2_readAAt_8 rfl (lv_at hl 0 rfl) ?_
    refine va_get (D := (dC, dI)) (ci := 3) (v := .ref (a 10)) (C := RX2) (T := TX2) (N := 10) hx hb hts hinX2 hown hK hP 2 rfl rfl 0 (by decide) (hts (.fieldLink RX2 9 "RenameRows$Ring" "readA" "[I") (by decide +kernel)) (fun _ h9 => h9) rfl dX2_readAAt_9 ?_
    refine lv_iload_n hx hb dX2_readAAt_12 rfl (lv_at hl 1 rfl) ?_
    refine ar_ld (D := (dC, dI)) (n := n 2) (f := f 10) hx hb hK hP 10 0 rfl rfl (by omega) (by omega) dX2_readAAt_13 ?_
    refine lv_goto (tgt := 18) hx hb dX2_readAAt_14 (by decide) ?_
    refine tp_eq (show _ = x_at 10 n f (nI jx) by first | (simp [x_at, c_1, cl32_nI (show jx < 2 ^ 31 by omega)]; done) | (simp [nI_0, x_at, c_1, cl32_nI (show jx < 2 ^ 31 by omega)]; done) | (simp [x_at, c_1, cl32_nI (show jx < 2 ^ 31 by omega)]; omega)) ?_
    exact rd_iret hx hb hr hlocks dX2_readAAt_18

set_option maxHeartbeats 4000000 in
set_option maxRecDepth 100000 in
theorem c_X2_readBAt (l : Launch) (dC : Nat → ClassId) (dI : Nat → Nat → Nat) (cs : ClassId × ClassId) (a n : Nat → Nat) (f : Nat → Nat → Int32) (x : Int32) (hB : x_bd n)  : Met l yX2_readBAt wsX2_readBAt ({ frames := 1, cells := 0, slots := 0, locals := 21 }) (rdPc (dC, dI) vwCl (wX cs a n f) (tyl cs) [.ref (a 2), .int x]) (QcRead (x_at 11 n f x)) 0 0 (fun _ => False) := by
  refine rd_of (cc := cX2_readBAt) (maxL := 2) (ret := (some .int)) (own := RX2) (by decide) rfl rfl (Nat.le_of_ble_eq_true rfl) ?_
  intro p e s m below meth c hx hb hr hml hts hown hlocks hP hK ls hl
  have hl : lv_has ls 2 [(0, .ref (a 2)), (1, .int x)] := hl
  have hinX2 : ∀ w ∈ wsX20, w ∈ wsX2_readBAt := by decide +kernel
  obtain ⟨B1, B2, B3, B4, B5, B6, B7, B8, B9, B10, B11, B12, B13, B14, B15⟩ := id hB
  refine lv_aload_n hx hb dX2_readBAt_0 rfl (lv_at hl 0 rfl) ?_
  refine lv_iload_n hx hb dX2_readBAt_1 rfl (lv_at hl 1 rfl) ?_
  refine W.callR (W.runV (As := [.int x]) (rest := []) ⟨hx, hb, hml, hown, hts⟩ (c_X2_isPlace l dC dI cs a n f x hB) (cwV 1 hts gX2_readBAt_X2_isPlace rfl rfl rfl (by decide +kernel) ⟨Nat.le_of_ble_eq_true rfl, Nat.le_of_ble_eq_true rfl⟩) (rd_preV (q := (RX2, TX2, 10)) hP hK 2 rfl rfl) rfl rfl hl.1 rfl (lv_room (Nat.le_of_ble_eq_true rfl)) dX2_readBAt_2 ⟨Nat.zero_le _, Nat.zero_le _⟩) ?_
  refine W.eq (g2 := F0 m 5 ls (.int (b2i (inB x (n 2))) :: [])) rfl ?_
  refine lv_if_eq (tgt := 17) hx hb dX2_readBAt_5 (by decide) (fun c_1 => ?_) (fun c_1 => ?_)
  · have c_1 : inB x (n 2) = false := b2i_f c_1
    refine lv_iconst (v := (-1)) hx hb dX2_readBAt_17 (by decide) ?_
    refine tp_eq (show _ = x_at 11 n f x by first | (simp [x_at, c_1]; done) | (simp [nI_0, x_at, c_1]; done) | (simp [x_at, c_1]; omega)) ?_
    exact rd_iret hx hb hr hlocks dX2_readBAt_18
  · have c_1 : inB x (n 2) = true := b2i_t c_1
    obtain ⟨jx, hjx, rfl⟩ := inB_t c_1 (by omega)
    refine lv_aload_n hx hb dX2_readBAt_8 rfl (lv_at hl 0 rfl) ?_
    refine va_get (D := (dC, dI)) (ci := 3) (v := .ref (a 11)) (C := RX2) (T := TX2) (N := 10) hx hb hts hinX2 hown hK hP 2 rfl rfl 1 (by decide) (hts (.fieldLink RX2 15 "RenameRows$Ring" "readB" "[I") (by decide +kernel)) (fun _ h9 => h9) rfl dX2_readBAt_9 ?_
    refine lv_iload_n hx hb dX2_readBAt_12 rfl (lv_at hl 1 rfl) ?_
    refine ar_ld (D := (dC, dI)) (n := n 2) (f := f 11) hx hb hK hP 11 0 rfl rfl (by omega) (by omega) dX2_readBAt_13 ?_
    refine lv_goto (tgt := 18) hx hb dX2_readBAt_14 (by decide) ?_
    refine tp_eq (show _ = x_at 11 n f (nI jx) by first | (simp [x_at, c_1, cl32_nI (show jx < 2 ^ 31 by omega)]; done) | (simp [nI_0, x_at, c_1, cl32_nI (show jx < 2 ^ 31 by omega)]; done) | (simp [x_at, c_1, cl32_nI (show jx < 2 ^ 31 by omega)]; omega)) ?_
    exact rd_iret hx hb hr hlocks dX2_readBAt_18

set_option maxHeartbeats 4000000 in
set_option maxRecDepth 100000 in
theorem c_X2_givenAt (l : Launch) (dC : Nat → ClassId) (dI : Nat → Nat → Nat) (cs : ClassId × ClassId) (a n : Nat → Nat) (f : Nat → Nat → Int32) (x : Int32) (hB : x_bd n)  : Met l yX2_givenAt wsX2_givenAt ({ frames := 1, cells := 0, slots := 0, locals := 21 }) (rdPc (dC, dI) vwCl (wX cs a n f) (tyl cs) [.ref (a 2), .int x]) (QcRead (x_at 12 n f x)) 0 0 (fun _ => False) := by
  refine rd_of (cc := cX2_givenAt) (maxL := 2) (ret := (some .int)) (own := RX2) (by decide) rfl rfl (Nat.le_of_ble_eq_true rfl) ?_
  intro p e s m below meth c hx hb hr hml hts hown hlocks hP hK ls hl
  have hl : lv_has ls 2 [(0, .ref (a 2)), (1, .int x)] := hl
  have hinX2 : ∀ w ∈ wsX20, w ∈ wsX2_givenAt := by decide +kernel
  obtain ⟨B1, B2, B3, B4, B5, B6, B7, B8, B9, B10, B11, B12, B13, B14, B15⟩ := id hB
  refine lv_aload_n hx hb dX2_givenAt_0 rfl (lv_at hl 0 rfl) ?_
  refine lv_iload_n hx hb dX2_givenAt_1 rfl (lv_at hl 1 rfl) ?_
  refine W.callR (W.runV (As := [.int x]) (rest := []) ⟨hx, hb, hml, hown, hts⟩ (c_X2_isPlace l dC dI cs a n f x hB) (cwV 1 hts gX2_givenAt_X2_isPlace rfl rfl rfl (by decide +kernel) ⟨Nat.le_of_ble_eq_true rfl, Nat.le_of_ble_eq_true rfl⟩) (rd_preV (q := (RX2, TX2, 10)) hP hK 2 rfl rfl) rfl rfl hl.1 rfl (lv_room (Nat.le_of_ble_eq_true rfl)) dX2_givenAt_2 ⟨Nat.zero_le _, Nat.zero_le _⟩) ?_
  refine W.eq (g2 := F0 m 5 ls (.int (b2i (inB x (n 2))) :: [])) rfl ?_
  refine lv_if_eq (tgt := 17) hx hb dX2_givenAt_5 (by decide) (fun c_1 => ?_) (fun c_1 => ?_)
  · have c_1 : inB x (n 2) = false := b2i_f c_1
    refine lv_iconst (v := (-1)) hx hb dX2_givenAt_17 (by decide) ?_
    refine tp_eq (show _ = x_at 12 n f x by first | (simp [x_at, c_1]; done) | (simp [nI_0, x_at, c_1]; done) | (simp [x_at, c_1]; omega)) ?_
    exact rd_iret hx hb hr hlocks dX2_givenAt_18
  · have c_1 : inB x (n 2) = true := b2i_t c_1
    obtain ⟨jx, hjx, rfl⟩ := inB_t c_1 (by omega)
    refine lv_aload_n hx hb dX2_givenAt_8 rfl (lv_at hl 0 rfl) ?_
    refine va_get (D := (dC, dI)) (ci := 3) (v := .ref (a 12)) (C := RX2) (T := TX2) (N := 10) hx hb hts hinX2 hown hK hP 2 rfl rfl 2 (by decide) (hts (.fieldLink RX2 18 "RenameRows$Ring" "given" "[I") (by decide +kernel)) (fun _ h9 => h9) rfl dX2_givenAt_9 ?_
    refine lv_iload_n hx hb dX2_givenAt_12 rfl (lv_at hl 1 rfl) ?_
    refine ar_ld (D := (dC, dI)) (n := n 2) (f := f 12) hx hb hK hP 12 0 rfl rfl (by omega) (by omega) dX2_givenAt_13 ?_
    refine lv_goto (tgt := 18) hx hb dX2_givenAt_14 (by decide) ?_
    refine tp_eq (show _ = x_at 12 n f (nI jx) by first | (simp [x_at, c_1, cl32_nI (show jx < 2 ^ 31 by omega)]; done) | (simp [nI_0, x_at, c_1, cl32_nI (show jx < 2 ^ 31 by omega)]; done) | (simp [x_at, c_1, cl32_nI (show jx < 2 ^ 31 by omega)]; omega)) ?_
    exact rd_iret hx hb hr hlocks dX2_givenAt_18

set_option maxHeartbeats 4000000 in
set_option maxRecDepth 100000 in
theorem c_X2_knownAt (l : Launch) (dC : Nat → ClassId) (dI : Nat → Nat → Nat) (cs : ClassId × ClassId) (a n : Nat → Nat) (f : Nat → Nat → Int32) (x : Int32) (hB : x_bd n)  : Met l yX2_knownAt wsX2_knownAt ({ frames := 1, cells := 0, slots := 0, locals := 21 }) (rdPc (dC, dI) vwCl (wX cs a n f) (tyl cs) [.ref (a 2), .int x]) (QcRead (x_at 13 n f x)) 0 0 (fun _ => False) := by
  refine rd_of (cc := cX2_knownAt) (maxL := 2) (ret := (some .int)) (own := RX2) (by decide) rfl rfl (Nat.le_of_ble_eq_true rfl) ?_
  intro p e s m below meth c hx hb hr hml hts hown hlocks hP hK ls hl
  have hl : lv_has ls 2 [(0, .ref (a 2)), (1, .int x)] := hl
  have hinX2 : ∀ w ∈ wsX20, w ∈ wsX2_knownAt := by decide +kernel
  obtain ⟨B1, B2, B3, B4, B5, B6, B7, B8, B9, B10, B11, B12, B13, B14, B15⟩ := id hB
  refine lv_aload_n hx hb dX2_knownAt_0 rfl (lv_at hl 0 rfl) ?_
  refine lv_iload_n hx hb dX2_knownAt_1 rfl (lv_at hl 1 rfl) ?_
  refine W.callR (W.runV (As := [.int x]) (rest := []) ⟨hx, hb, hml, hown, hts⟩ (c_X2_isPlace l dC dI cs a n f x hB) (cwV 1 hts gX2_knownAt_X2_isPlace rfl rfl rfl (by decide +kernel) ⟨Nat.le_of_ble_eq_true rfl, Nat.le_of_ble_eq_true rfl⟩) (rd_preV (q := (RX2, TX2, 10)) hP hK 2 rfl rfl) rfl rfl hl.1 rfl (lv_room (Nat.le_of_ble_eq_true rfl)) dX2_knownAt_2 ⟨Nat.zero_le _, Nat.zero_le _⟩) ?_
  refine W.eq (g2 := F0 m 5 ls (.int (b2i (inB x (n 2))) :: [])) rfl ?_
  refine lv_if_eq (tgt := 17) hx hb dX2_knownAt_5 (by decide) (fun c_1 => ?_) (fun c_1 => ?_)
  · have c_1 : inB x (n 2) = false := b2i_f c_1
    refine lv_iconst (v := (-1)) hx hb dX2_knownAt_17 (by decide) ?_
    refine tp_eq (show _ = x_at 13 n f x by first | (simp [x_at, c_1]; done) | (simp [nI_0, x_at, c_1]; done) | (simp [x_at, c_1]; omega)) ?_
    exact rd_iret hx hb hr hlocks dX2_knownAt_18
  · have c_1 : inB x (n 2) = true := b2i_t c_1
    obtain ⟨jx, hjx, rfl⟩ := inB_t c_1 (by omega)
    refine lv_aload_n hx hb dX2_knownAt_8 rfl (lv_at hl 0 rfl) ?_
    refine va_get (D := (dC, dI)) (ci := 3) (v := .ref (a 13)) (C := RX2) (T := TX2) (N := 10) hx hb hts hinX2 hown hK hP 2 rfl rfl 3 (by decide) (hts (.fieldLink RX2 21 "RenameRows$Ring" "known" "[I") (by decide +kernel)) (fun _ h9 => h9) rfl dX2_knownAt_9 ?_
    refine lv_iload_n hx hb dX2_knownAt_12 rfl (lv_at hl 1 rfl) ?_
    refine ar_ld (D := (dC, dI)) (n := n 2) (f := f 13) hx hb hK hP 13 0 rfl rfl (by omega) (by omega) dX2_knownAt_13 ?_
    refine lv_goto (tgt := 18) hx hb dX2_knownAt_14 (by decide) ?_
    refine tp_eq (show _ = x_at 13 n f (nI jx) by first | (simp [x_at, c_1, cl32_nI (show jx < 2 ^ 31 by omega)]; done) | (simp [nI_0, x_at, c_1, cl32_nI (show jx < 2 ^ 31 by omega)]; done) | (simp [x_at, c_1, cl32_nI (show jx < 2 ^ 31 by omega)]; omega)) ?_
    exact rd_iret hx hb hr hlocks dX2_knownAt_18

set_option maxHeartbeats 4000000 in
set_option maxRecDepth 100000 in
theorem c_X2_registerAt (l : Launch) (dC : Nat → ClassId) (dI : Nat → Nat → Nat) (cs : ClassId × ClassId) (a n : Nat → Nat) (f : Nat → Nat → Int32) (x : Int32) (hB : x_bd n)  : Met l yX2_registerAt wsX2_registerAt ({ frames := 1, cells := 0, slots := 0, locals := 21 }) (rdPc (dC, dI) vwCl (wX cs a n f) (tyl cs) [.ref (a 2), .int x]) (QcRead (x_at 14 n f x)) 0 0 (fun _ => False) := by
  refine rd_of (cc := cX2_registerAt) (maxL := 2) (ret := (some .int)) (own := RX2) (by decide) rfl rfl (Nat.le_of_ble_eq_true rfl) ?_
  intro p e s m below meth c hx hb hr hml hts hown hlocks hP hK ls hl
  have hl : lv_has ls 2 [(0, .ref (a 2)), (1, .int x)] := hl
  have hinX2 : ∀ w ∈ wsX20, w ∈ wsX2_registerAt := by decide +kernel
  obtain ⟨B1, B2, B3, B4, B5, B6, B7, B8, B9, B10, B11, B12, B13, B14, B15⟩ := id hB
  refine lv_aload_n hx hb dX2_registerAt_0 rfl (lv_at hl 0 rfl) ?_
  refine lv_iload_n hx hb dX2_registerAt_1 rfl (lv_at hl 1 rfl) ?_
  refine W.callR (W.runV (As := [.int x]) (rest := []) ⟨hx, hb, hml, hown, hts⟩ (c_X2_isPlace l dC dI cs a n f x hB) (cwV 1 hts gX2_registerAt_X2_isPlace rfl rfl rfl (by decide +kernel) ⟨Nat.le_of_ble_eq_true rfl, Nat.le_of_ble_eq_true rfl⟩) (rd_preV (q := (RX2, TX2, 10)) hP hK 2 rfl rfl) rfl rfl hl.1 rfl (lv_room (Nat.le_of_ble_eq_true rfl)) dX2_registerAt_2 ⟨Nat.zero_le _, Nat.zero_le _⟩) ?_
  refine W.eq (g2 := F0 m 5 ls (.int (b2i (inB x (n 2))) :: [])) rfl ?_
  refine lv_if_eq (tgt := 17) hx hb dX2_registerAt_5 (by decide) (fun c_1 => ?_) (fun c_1 => ?_)
  · have c_1 : inB x (n 2) = false := b2i_f c_1
    refine lv_iconst (v := (-1)) hx hb dX2_registerAt_17 (by decide) ?_
    refine tp_eq (show _ = x_at 14 n f x by first | (simp [x_at, c_1]; done) | (simp [nI_0, x_at, c_1]; done) | (simp [x_at, c_1]; omega)) ?_
    exact rd_iret hx hb hr hlocks dX2_registerAt_18
  · have c_1 : inB x (n 2) = true := b2i_t c_1
    obtain ⟨jx, hjx, rfl⟩ := inB_t c_1 (by omega)
    refine lv_aload_n hx hb dX2_registerAt_8 rfl (lv_at hl 0 rfl) ?_
    refine va_get (D := (dC, dI)) (ci := 3) (v := .ref (a 14)) (C := RX2) (T := TX2) (N := 10) hx hb hts hinX2 hown hK hP 2 rfl rfl 4 (by decide) (hts (.fieldLink RX2 24 "RenameRows$Ring" "register" "[I") (by decide +kernel)) (fun _ h9 => h9) rfl dX2_registerAt_9 ?_
    refine lv_iload_n hx hb dX2_registerAt_12 rfl (lv_at hl 1 rfl) ?_
    refine ar_ld (D := (dC, dI)) (n := n 2) (f := f 14) hx hb hK hP 14 0 rfl rfl (by omega) (by omega) dX2_registerAt_13 ?_
    refine lv_goto (tgt := 18) hx hb dX2_registerAt_14 (by decide) ?_
    refine tp_eq (show _ = x_at 14 n f (nI jx) by first | (simp [x_at, c_1, cl32_nI (show jx < 2 ^ 31 by omega)]; done) | (simp [nI_0, x_at, c_1, cl32_nI (show jx < 2 ^ 31 by omega)]; done) | (simp [x_at, c_1, cl32_nI (show jx < 2 ^ 31 by omega)]; omega)) ?_
    exact rd_iret hx hb hr hlocks dX2_registerAt_18

set_option maxHeartbeats 4000000 in
set_option maxRecDepth 100000 in
theorem c_X2_portAt (l : Launch) (dC : Nat → ClassId) (dI : Nat → Nat → Nat) (cs : ClassId × ClassId) (a n : Nat → Nat) (f : Nat → Nat → Int32) (x : Int32) (hB : x_bd n)  : Met l yX2_portAt wsX2_portAt ({ frames := 1, cells := 0, slots := 0, locals := 21 }) (rdPc (dC, dI) vwCl (wX cs a n f) (tyl cs) [.ref (a 2), .int x]) (QcRead (x_at 15 n f x)) 0 0 (fun _ => False) := by
  refine rd_of (cc := cX2_portAt) (maxL := 2) (ret := (some .int)) (own := RX2) (by decide) rfl rfl (Nat.le_of_ble_eq_true rfl) ?_
  intro p e s m below meth c hx hb hr hml hts hown hlocks hP hK ls hl
  have hl : lv_has ls 2 [(0, .ref (a 2)), (1, .int x)] := hl
  have hinX2 : ∀ w ∈ wsX20, w ∈ wsX2_portAt := by decide +kernel
  obtain ⟨B1, B2, B3, B4, B5, B6, B7, B8, B9, B10, B11, B12, B13, B14, B15⟩ := id hB
  refine lv_aload_n hx hb dX2_portAt_0 rfl (lv_at hl 0 rfl) ?_
  refine lv_iload_n hx hb dX2_portAt_1 rfl (lv_at hl 1 rfl) ?_
  refine W.callR (W.runV (As := [.int x]) (rest := []) ⟨hx, hb, hml, hown, hts⟩ (c_X2_isPlace l dC dI cs a n f x hB) (cwV 1 hts gX2_portAt_X2_isPlace rfl rfl rfl (by decide +kernel) ⟨Nat.le_of_ble_eq_true rfl, Nat.le_of_ble_eq_true rfl⟩) (rd_preV (q := (RX2, TX2, 10)) hP hK 2 rfl rfl) rfl rfl hl.1 rfl (lv_room (Nat.le_of_ble_eq_true rfl)) dX2_portAt_2 ⟨Nat.zero_le _, Nat.zero_le _⟩) ?_
  refine W.eq (g2 := F0 m 5 ls (.int (b2i (inB x (n 2))) :: [])) rfl ?_
  refine lv_if_eq (tgt := 17) hx hb dX2_portAt_5 (by decide) (fun c_1 => ?_) (fun c_1 => ?_)
  · have c_1 : inB x (n 2) = false := b2i_f c_1
    refine lv_iconst (v := (-1)) hx hb dX2_portAt_17 (by decide) ?_
    refine tp_eq (show _ = x_at 15 n f x by first | (simp [x_at, c_1]; done) | (simp [nI_0, x_at, c_1]; done) | (simp [x_at, c_1]; omega)) ?_
    exact rd_iret hx hb hr hlocks dX2_portAt_18
  · have c_1 : inB x (n 2) = true := b2i_t c_1
    obtain ⟨jx, hjx, rfl⟩ := inB_t c_1 (by omega)
    refine lv_aload_n hx hb dX2_portAt_8 rfl (lv_at hl 0 rfl) ?_
    refine va_get (D := (dC, dI)) (ci := 3) (v := .ref (a 15)) (C := RX2) (T := TX2) (N := 10) hx hb hts hinX2 hown hK hP 2 rfl rfl 5 (by decide) (hts (.fieldLink RX2 27 "RenameRows$Ring" "port" "[I") (by decide +kernel)) (fun _ h9 => h9) rfl dX2_portAt_9 ?_
    refine lv_iload_n hx hb dX2_portAt_12 rfl (lv_at hl 1 rfl) ?_
    refine ar_ld (D := (dC, dI)) (n := n 2) (f := f 15) hx hb hK hP 15 0 rfl rfl (by omega) (by omega) dX2_portAt_13 ?_
    refine lv_goto (tgt := 18) hx hb dX2_portAt_14 (by decide) ?_
    refine tp_eq (show _ = x_at 15 n f (nI jx) by first | (simp [x_at, c_1, cl32_nI (show jx < 2 ^ 31 by omega)]; done) | (simp [nI_0, x_at, c_1, cl32_nI (show jx < 2 ^ 31 by omega)]; done) | (simp [x_at, c_1, cl32_nI (show jx < 2 ^ 31 by omega)]; omega)) ?_
    exact rd_iret hx hb hr hlocks dX2_portAt_18

set_option maxHeartbeats 4000000 in
set_option maxRecDepth 100000 in
theorem c_X2_stateAt (l : Launch) (dC : Nat → ClassId) (dI : Nat → Nat → Nat) (cs : ClassId × ClassId) (a n : Nat → Nat) (f : Nat → Nat → Int32) (x : Int32) (hB : x_bd n)  : Met l yX2_stateAt wsX2_stateAt ({ frames := 1, cells := 0, slots := 0, locals := 21 }) (rdPc (dC, dI) vwCl (wX cs a n f) (tyl cs) [.ref (a 2), .int x]) (QcRead (x_at 16 n f x)) 0 0 (fun _ => False) := by
  refine rd_of (cc := cX2_stateAt) (maxL := 2) (ret := (some .int)) (own := RX2) (by decide) rfl rfl (Nat.le_of_ble_eq_true rfl) ?_
  intro p e s m below meth c hx hb hr hml hts hown hlocks hP hK ls hl
  have hl : lv_has ls 2 [(0, .ref (a 2)), (1, .int x)] := hl
  have hinX2 : ∀ w ∈ wsX20, w ∈ wsX2_stateAt := by decide +kernel
  obtain ⟨B1, B2, B3, B4, B5, B6, B7, B8, B9, B10, B11, B12, B13, B14, B15⟩ := id hB
  refine lv_aload_n hx hb dX2_stateAt_0 rfl (lv_at hl 0 rfl) ?_
  refine lv_iload_n hx hb dX2_stateAt_1 rfl (lv_at hl 1 rfl) ?_
  refine W.callR (W.runV (As := [.int x]) (rest := []) ⟨hx, hb, hml, hown, hts⟩ (c_X2_isPlace l dC dI cs a n f x hB) (cwV 1 hts gX2_stateAt_X2_isPlace rfl rfl rfl (by decide +kernel) ⟨Nat.le_of_ble_eq_true rfl, Nat.le_of_ble_eq_true rfl⟩) (rd_preV (q := (RX2, TX2, 10)) hP hK 2 rfl rfl) rfl rfl hl.1 rfl (lv_room (Nat.le_of_ble_eq_true rfl)) dX2_stateAt_2 ⟨Nat.zero_le _, Nat.zero_le _⟩) ?_
  refine W.eq (g2 := F0 m 5 ls (.int (b2i (inB x (n 2))) :: [])) rfl ?_
  refine lv_if_eq (tgt := 17) hx hb dX2_stateAt_5 (by decide) (fun c_1 => ?_) (fun c_1 => ?_)
  · have c_1 : inB x (n 2) = false := b2i_f c_1
    refine lv_iconst (v := (-1)) hx hb dX2_stateAt_17 (by decide) ?_
    refine tp_eq (show _ = x_at 16 n f x by first | (simp [x_at, c_1]; done) | (simp [nI_0, x_at, c_1]; done) | (simp [x_at, c_1]; omega)) ?_
    exact rd_iret hx hb hr hlocks dX2_stateAt_18
  · have c_1 : inB x (n 2) = true := b2i_t c_1
    obtain ⟨jx, hjx, rfl⟩ := inB_t c_1 (by omega)
    refine lv_aload_n hx hb dX2_stateAt_8 rfl (lv_at hl 0 rfl) ?_
    refine va_get (D := (dC, dI)) (ci := 3) (v := .ref (a 16)) (C := RX2) (T := TX2) (N := 10) hx hb hts hinX2 hown hK hP 2 rfl rfl 6 (by decide) (hts (.fieldLink RX2 30 "RenameRows$Ring" "state" "[I") (by decide +kernel)) (fun _ h9 => h9) rfl dX2_stateAt_9 ?_
    refine lv_iload_n hx hb dX2_stateAt_12 rfl (lv_at hl 1 rfl) ?_
    refine ar_ld (D := (dC, dI)) (n := n 2) (f := f 16) hx hb hK hP 16 0 rfl rfl (by omega) (by omega) dX2_stateAt_13 ?_
    refine lv_goto (tgt := 18) hx hb dX2_stateAt_14 (by decide) ?_
    refine tp_eq (show _ = x_at 16 n f (nI jx) by first | (simp [x_at, c_1, cl32_nI (show jx < 2 ^ 31 by omega)]; done) | (simp [nI_0, x_at, c_1, cl32_nI (show jx < 2 ^ 31 by omega)]; done) | (simp [x_at, c_1, cl32_nI (show jx < 2 ^ 31 by omega)]; omega)) ?_
    exact rd_iret hx hb hr hlocks dX2_stateAt_18
end
section
set_option maxHeartbeats 4000000 in
set_option maxRecDepth 100000 in
theorem c_X0_isMark (l : Launch) (dC : Nat → ClassId) (dI : Nat → Nat → Nat) (cs : ClassId × ClassId) (a n : Nat → Nat) (f : Nat → Nat → Int32) (x : Int32) (hB : x_bd n)  : Met l yX0_isMark wsX0_isMark ({ frames := 0, cells := 0, slots := 0, locals := 0 }) (rdPc (dC, dI) vwCl (wX cs a n f) (tyl cs) [.ref (a 3), .int x]) (QcRead (b2i (inB x 8))) 0 0 (fun _ => False) := by
  refine rd_of (cc := cX0_isMark) (maxL := 2) (ret := (some .boolean)) (own := RX0) (by decide) rfl rfl (Nat.le_of_ble_eq_true rfl) ?_
  intro p e s m below meth c hx hb hr hml hts hown hlocks hP hK ls hl
  have hl : lv_has ls 2 [(0, .ref (a 3)), (1, .int x)] := hl
  obtain ⟨B1, B2, B3, B4, B5, B6, B7, B8, B9, B10, B11, B12, B13, B14, B15⟩ := id hB
  refine lv_iload_n hx hb dX0_isMark_0 rfl (lv_at hl 1 rfl) ?_
  refine lv_if_lt (tgt := 14) hx hb dX0_isMark_1 (by decide) (fun c_1 => ?_) (fun c_1 => ?_)
  · refine lv_iconst (v := nI 0) hx hb dX0_isMark_14 (by decide) ?_
    refine tp_eq (b_0 (by first | exact inB_lt c_1 | exact inB_in c_1 c_2 | exact inB_ge' c_2) : _ = b2i (inB x 8)) ?_
    exact rd_zret hx hb hr hlocks dX0_isMark_15
  · refine lv_iload_n hx hb dX0_isMark_4 rfl (lv_at hl 1 rfl) ?_
    refine lv_bipush (v := nI 8) hx hb dX0_isMark_5 (by decide) ?_
    refine lv_icmp_ge (tgt := 14) hx hb dX0_isMark_7 (by decide) (fun c_2 => ?_) (fun c_2 => ?_)
    · refine lv_iconst (v := nI 0) hx hb dX0_isMark_14 (by decide) ?_
      refine tp_eq (b_0 (by first | exact inB_lt c_1 | exact inB_in c_1 c_2 | exact inB_ge' c_2) : _ = b2i (inB x 8)) ?_
      exact rd_zret hx hb hr hlocks dX0_isMark_15
    · refine lv_iconst (v := nI 1) hx hb dX0_isMark_10 (by decide) ?_
      refine lv_goto (tgt := 15) hx hb dX0_isMark_11 (by decide) ?_
      refine tp_eq (b_1 (by first | exact inB_lt c_1 | exact inB_in c_1 c_2 | exact inB_ge' c_2) : _ = b2i (inB x 8)) ?_
      exact rd_zret hx hb hr hlocks dX0_isMark_15

set_option maxHeartbeats 4000000 in
set_option maxRecDepth 100000 in
theorem c_X0_takenCount (l : Launch) (dC : Nat → ClassId) (dI : Nat → Nat → Nat) (cs : ClassId × ClassId) (a n : Nat → Nat) (f : Nat → Nat → Int32) (hB : x_bd n)  : Met l yX0_takenCount wsX0_takenCount ({ frames := 0, cells := 0, slots := 0, locals := 0 }) (rdPc (dC, dI) vwCl (wX cs a n f) (tyl cs) [.ref (a 3)]) (QcRead (nI (n 11))) 0 0 (fun _ => False) := by
  refine rd_of (cc := cX0_takenCount) (maxL := 1) (ret := (some .int)) (own := RX0) (by decide) rfl rfl (Nat.le_of_ble_eq_true rfl) ?_
  intro p e s m below meth c hx hb hr hml hts hown hlocks hP hK ls hl
  have hl : lv_has ls 1 [(0, .ref (a 3))] := hl
  have hinX0 : ∀ w ∈ wsX00, w ∈ wsX0_takenCount := by decide +kernel
  obtain ⟨B1, B2, B3, B4, B5, B6, B7, B8, B9, B10, B11, B12, B13, B14, B15⟩ := id hB
  refine lv_aload_n hx hb dX0_takenCount_0 rfl (lv_at hl 0 rfl) ?_
  refine va_get (D := (dC, dI)) (ci := 1) (v := .int (nI (n 11))) (C := RX0) (T := TX0) (N := 3) hx hb hts hinX0 hown hK hP 3 rfl rfl 2 (by decide) (hts (.fieldLink RX0 22 "RenameRows$Marks" "taken" "I") (by decide +kernel)) (fun _ h9 => h9) rfl dX0_takenCount_1 ?_
  exact rd_iret hx hb hr hlocks dX0_takenCount_4

set_option maxHeartbeats 4000000 in
set_option maxRecDepth 100000 in
theorem c_X0_rowsBefore (l : Launch) (dC : Nat → ClassId) (dI : Nat → Nat → Nat) (cs : ClassId × ClassId) (a n : Nat → Nat) (f : Nat → Nat → Int32) (x : Int32) (hB : x_bd n)  : Met l yX0_rowsBefore wsX0_rowsBefore ({ frames := 1, cells := 0, slots := 0, locals := 21 }) (rdPc (dC, dI) vwCl (wX cs a n f) (tyl cs) [.ref (a 3), .int x]) (QcRead (x_bef f x)) 0 0 (fun _ => False) := by
  refine rd_of (cc := cX0_rowsBefore) (maxL := 2) (ret := (some .int)) (own := RX0) (by decide) rfl rfl (Nat.le_of_ble_eq_true rfl) ?_
  intro p e s m below meth c hx hb hr hml hts hown hlocks hP hK ls hl
  have hl : lv_has ls 2 [(0, .ref (a 3)), (1, .int x)] := hl
  have hinX0 : ∀ w ∈ wsX00, w ∈ wsX0_rowsBefore := by decide +kernel
  obtain ⟨B1, B2, B3, B4, B5, B6, B7, B8, B9, B10, B11, B12, B13, B14, B15⟩ := id hB
  refine lv_aload_n hx hb dX0_rowsBefore_0 rfl (lv_at hl 0 rfl) ?_
  refine lv_iload_n hx hb dX0_rowsBefore_1 rfl (lv_at hl 1 rfl) ?_
  refine W.callR (W.runV (As := [.int x]) (rest := []) ⟨hx, hb, hml, hown, hts⟩ (c_X0_isMark l dC dI cs a n f x hB) (cwV 1 hts gX0_rowsBefore_X0_isMark rfl rfl rfl (by decide +kernel) ⟨Nat.le_of_ble_eq_true rfl, Nat.le_of_ble_eq_true rfl⟩) (rd_preV (q := (RX0, TX0, 3)) hP hK 3 rfl rfl) rfl rfl hl.1 rfl (lv_room (Nat.le_of_ble_eq_true rfl)) dX0_rowsBefore_2 ⟨Nat.zero_le _, Nat.zero_le _⟩) ?_
  refine W.eq (g2 := F0 m 5 ls (.int (b2i (inB x 8)) :: [])) rfl ?_
  refine lv_if_eq (tgt := 17) hx hb dX0_rowsBefore_5 (by decide) (fun c_1 => ?_) (fun c_1 => ?_)
  · have c_1 : inB x 8 = false := b2i_f c_1
    refine lv_iconst (v := nI 0) hx hb dX0_rowsBefore_17 (by decide) ?_
    refine tp_eq (show _ = x_bef f x by first | (simp [x_bef, c_1]; done) | (simp [nI_0, x_bef, c_1]; done) | (simp [x_bef, c_1]; omega)) ?_
    exact rd_iret hx hb hr hlocks dX0_rowsBefore_18
  · have c_1 : inB x 8 = true := b2i_t c_1
    obtain ⟨jx, hjx, rfl⟩ := inB_t c_1 (by omega)
    refine lv_aload_n hx hb dX0_rowsBefore_8 rfl (lv_at hl 0 rfl) ?_
    refine va_get (D := (dC, dI)) (ci := 1) (v := .ref (a 17)) (C := RX0) (T := TX0) (N := 3) hx hb hts hinX0 hown hK hP 3 rfl rfl 0 (by decide) (hts (.fieldLink RX0 9 "RenameRows$Marks" "before" "[I") (by decide +kernel)) (fun _ h9 => h9) rfl dX0_rowsBefore_9 ?_
    refine lv_iload_n hx hb dX0_rowsBefore_12 rfl (lv_at hl 1 rfl) ?_
    refine ar_ld (D := (dC, dI)) (n := 8) (f := f 17) hx hb hK hP 17 0 rfl rfl (by omega) (by omega) dX0_rowsBefore_13 ?_
    refine lv_goto (tgt := 18) hx hb dX0_rowsBefore_14 (by decide) ?_
    refine tp_eq (show _ = x_bef f (nI jx) by first | (simp [x_bef, c_1, cl32_nI (show jx < 2 ^ 31 by omega)]; done) | (simp [nI_0, x_bef, c_1, cl32_nI (show jx < 2 ^ 31 by omega)]; done) | (simp [x_bef, c_1, cl32_nI (show jx < 2 ^ 31 by omega)]; omega)) ?_
    exact rd_iret hx hb hr hlocks dX0_rowsBefore_18

set_option maxHeartbeats 4000000 in
set_option maxRecDepth 100000 in
theorem c_X0_oldest (l : Launch) (dC : Nat → ClassId) (dI : Nat → Nat → Nat) (cs : ClassId × ClassId) (a n : Nat → Nat) (f : Nat → Nat → Int32) (hB : x_bd n)  : Met l yX0_oldest wsX0_oldest ({ frames := 0, cells := 0, slots := 0, locals := 0 }) (rdPc (dC, dI) vwCl (wX cs a n f) (tyl cs) [.ref (a 3)]) (QcRead (x_om n f)) 0 0 (fun _ => False) := by
  refine rd_of (cc := cX0_oldest) (maxL := 1) (ret := (some .int)) (own := RX0) (by decide) rfl rfl (Nat.le_of_ble_eq_true rfl) ?_
  intro p e s m below meth c hx hb hr hml hts hown hlocks hP hK ls hl
  have hl : lv_has ls 1 [(0, .ref (a 3))] := hl
  have hinX0 : ∀ w ∈ wsX00, w ∈ wsX0_oldest := by decide +kernel
  obtain ⟨B1, B2, B3, B4, B5, B6, B7, B8, B9, B10, B11, B12, B13, B14, B15⟩ := id hB
  refine lv_aload_n hx hb dX0_oldest_0 rfl (lv_at hl 0 rfl) ?_
  refine va_get (D := (dC, dI)) (ci := 1) (v := .int (nI (n 11))) (C := RX0) (T := TX0) (N := 3) hx hb hts hinX0 hown hK hP 3 rfl rfl 2 (by decide) (hts (.fieldLink RX0 22 "RenameRows$Marks" "taken" "I") (by decide +kernel)) (fun _ h9 => h9) rfl dX0_oldest_1 ?_
  refine lv_if_ne (tgt := 11) hx hb dX0_oldest_4 (by decide) (fun c_1 => ?_) (fun c_1 => ?_)
  · have c_1 : ¬ (n 11) = 0 := fun q => c_1 ((nI_z (by omega)).mpr q)
    refine lv_aload_n hx hb dX0_oldest_11 rfl (lv_at hl 0 rfl) ?_
    refine va_get (D := (dC, dI)) (ci := 1) (v := .ref (a 18)) (C := RX0) (T := TX0) (N := 3) hx hb hts hinX0 hown hK hP 3 rfl rfl 1 (by decide) (hts (.fieldLink RX0 15 "RenameRows$Marks" "byTurn" "[I") (by decide +kernel)) (fun _ h9 => h9) rfl dX0_oldest_12 ?_
    refine lv_iconst (v := nI 0) hx hb dX0_oldest_15 (by decide) ?_
    refine ar_ld (D := (dC, dI)) (n := 8) (f := f 18) hx hb hK hP 18 0 rfl rfl (by omega) (by omega) dX0_oldest_16 ?_
    refine tp_eq (show _ = x_om n f by first | (simp [x_om, c_1]; done) | (simp [nI_0, x_om, c_1]; done) | (simp [x_om, c_1]; omega)) ?_
    exact rd_iret hx hb hr hlocks dX0_oldest_17
  · have c_1 : (n 11) = 0 := (nI_z (by omega)).mp c_1
    refine lv_iconst (v := (-1)) hx hb dX0_oldest_7 (by decide) ?_
    refine lv_goto (tgt := 17) hx hb dX0_oldest_8 (by decide) ?_
    refine tp_eq (show _ = x_om n f by first | (simp [x_om, c_1]; done) | (simp [nI_0, x_om, c_1]; done) | (simp [x_om, c_1]; omega)) ?_
    exact rd_iret hx hb hr hlocks dX0_oldest_17

set_option maxHeartbeats 4000000 in
set_option maxRecDepth 100000 in
theorem c_X0_turnOf (l : Launch) (dC : Nat → ClassId) (dI : Nat → Nat → Nat) (cs : ClassId × ClassId) (a n : Nat → Nat) (f : Nat → Nat → Int32) (x : Int32) (hB : x_bd n)  : Met l yX0_turnOf wsX0_turnOf ({ frames := 0, cells := 0, slots := 0, locals := 0 }) (rdPc (dC, dI) vwCl (wX cs a n f) (tyl cs) [.ref (a 3), .int x]) (QcRead (x_turn n f x)) 0 0 (fun _ => False) := by
  refine rd_of (cc := cX0_turnOf) (maxL := 3) (ret := (some .int)) (own := RX0) (by decide) rfl rfl (Nat.le_of_ble_eq_true rfl) ?_
  intro p e s m below meth c hx hb hr hml hts hown hlocks hP hK ls hl
  have hl : lv_has ls 3 [(0, .ref (a 3)), (1, .int x)] := hl
  have hinX0 : ∀ w ∈ wsX00, w ∈ wsX0_turnOf := by decide +kernel
  obtain ⟨B1, B2, B3, B4, B5, B6, B7, B8, B9, B10, B11, B12, B13, B14, B15⟩ := id hB
  refine lv_iconst (v := nI 0) hx hb dX0_turnOf_0 (by decide) ?_
  refine lv_istore_n (lv' := [(2, .int (nI 0)), (0, .ref (a 3)), (1, .int x)]) hx hb dX0_turnOf_1 rfl hl (by decide) rfl (fun ls hl => ?_)
  have key : ∀ (k t : Nat), t + k = n 11 → x_turn n f x = x_tf f x k t → ∀ ls : Array Slot, lv_has ls 3 [(2, .int (nI t)), (0, .ref (a 3)), (1, .int x)] → W p l e ({ frames := 0, cells := 0, slots := 0, locals := 0 } : Room) s m ([.ref (a 3), .int x] : List Value).toArray below meth c s.heap [] 0 0 (MQ below (QcRead (x_turn n f x)) ([.ref (a 3), .int x] : List Value).toArray s 0 0 (fun _ => False)) (F0 m 2 ls []) := by
    intro k
    induction k with
    | zero =>
      intro t ht hs ls hl
      refine lv_iload_n hx hb dX0_turnOf_2 rfl (lv_at hl 0 rfl) ?_
      refine lv_aload_n hx hb dX0_turnOf_3 rfl (lv_at hl 1 rfl) ?_
      refine va_get (D := (dC, dI)) (ci := 1) (v := .int (nI (n 11))) (C := RX0) (T := TX0) (N := 3) hx hb hts hinX0 hown hK hP 3 rfl rfl 2 (by decide) (hts (.fieldLink RX0 22 "RenameRows$Marks" "taken" "I") (by decide +kernel)) (fun _ h9 => h9) rfl dX0_turnOf_4 ?_
      refine lv_icmp_ge (tgt := 28) hx hb dX0_turnOf_7 (by decide) (fun c_1 => ?_) (fun c_1 => absurd (nI_le (by omega) (by omega)) c_1)
      have c_1 : (n 11) ≤ t := (nI_leI (by omega) (by omega)).mp c_1
      refine lv_iconst (v := (-1)) hx hb dX0_turnOf_28 (by decide) ?_
      refine tp_eq (show _ = x_turn n f x by rw [hs]; simp [x_tf, c_1]) ?_
      exact rd_iret hx hb hr hlocks dX0_turnOf_29
    | succ k ih =>
      intro t ht hs ls hl
      refine lv_iload_n hx hb dX0_turnOf_2 rfl (lv_at hl 0 rfl) ?_
      refine lv_aload_n hx hb dX0_turnOf_3 rfl (lv_at hl 1 rfl) ?_
      refine va_get (D := (dC, dI)) (ci := 1) (v := .int (nI (n 11))) (C := RX0) (T := TX0) (N := 3) hx hb hts hinX0 hown hK hP 3 rfl rfl 2 (by decide) (hts (.fieldLink RX0 22 "RenameRows$Marks" "taken" "I") (by decide +kernel)) (fun _ h9 => h9) rfl dX0_turnOf_4 ?_
      refine lv_icmp_ge (tgt := 28) hx hb dX0_turnOf_7 (by decide) (fun c_2 => absurd ((nI_leI (by omega) (by omega)).mp c_2) (by omega)) (fun c_2 => ?_)
      have c_2 : ¬ (n 11) ≤ t := fun q => c_2 ((nI_leI (by omega) (by omega)).mpr q)
      refine lv_aload_n hx hb dX0_turnOf_10 rfl (lv_at hl 1 rfl) ?_
      refine va_get (D := (dC, dI)) (ci := 1) (v := .ref (a 18)) (C := RX0) (T := TX0) (N := 3) hx hb hts hinX0 hown hK hP 3 rfl rfl 1 (by decide) (hts (.fieldLink RX0 15 "RenameRows$Marks" "byTurn" "[I") (by decide +kernel)) (fun _ h9 => h9) rfl dX0_turnOf_11 ?_
      refine lv_iload_n hx hb dX0_turnOf_14 rfl (lv_at hl 0 rfl) ?_
      refine ar_ld (D := (dC, dI)) (n := 8) (f := f 18) hx hb hK hP 18 0 rfl rfl (by omega) (by omega) dX0_turnOf_15 ?_
      refine lv_iload_n hx hb dX0_turnOf_16 rfl (lv_at hl 2 rfl) ?_
      refine lv_icmp_ne (tgt := 22) hx hb dX0_turnOf_17 (by decide) (fun c_3 => ?_) (fun c_3 => ?_)
      · refine lv_iinc (v := nI (t + 1)) (lv' := [(2, .int (nI (t + 1))), (0, .ref (a 3)), (1, .int x)]) hx hb dX0_turnOf_22 hl (k := 0) rfl (nI_succ t).symm (by decide) rfl (fun ls hl => ?_)
        refine lv_goto (tgt := 2) hx hb dX0_turnOf_25 (by decide) ?_
        exact ih (t + 1) (by omega) (by rw [hs]; simp [x_tf, c_3]) ls (lv_sub hl [0, 1, 2] rfl)
      · refine lv_iload_n hx hb dX0_turnOf_20 rfl (lv_at hl 0 rfl) ?_
        refine tp_eq (show _ = x_turn n f x by rw [hs]; simp [x_tf, c_2, c_3]) ?_
        exact rd_iret hx hb hr hlocks dX0_turnOf_21
  exact key (n 11) 0 (by omega) rfl ls (lv_sub hl [0, 1, 2] rfl)

set_option maxHeartbeats 4000000 in
set_option maxRecDepth 100000 in
theorem c_X0_isFree (l : Launch) (dC : Nat → ClassId) (dI : Nat → Nat → Nat) (cs : ClassId × ClassId) (a n : Nat → Nat) (f : Nat → Nat → Int32) (x : Int32) (hB : x_bd n)  : Met l yX0_isFree wsX0_isFree ({ frames := 1, cells := 0, slots := 0, locals := 22 }) (rdPc (dC, dI) vwCl (wX cs a n f) (tyl cs) [.ref (a 3), .int x]) (QcRead (b2i (decide (x_turn n f x = -1)))) 0 0 (fun _ => False) := by
  refine rd_of (cc := cX0_isFree) (maxL := 2) (ret := (some .boolean)) (own := RX0) (by decide) rfl rfl (Nat.le_of_ble_eq_true rfl) ?_
  intro p e s m below meth c hx hb hr hml hts hown hlocks hP hK ls hl
  have hl : lv_has ls 2 [(0, .ref (a 3)), (1, .int x)] := hl
  obtain ⟨B1, B2, B3, B4, B5, B6, B7, B8, B9, B10, B11, B12, B13, B14, B15⟩ := id hB
  refine lv_aload_n hx hb dX0_isFree_0 rfl (lv_at hl 0 rfl) ?_
  refine lv_iload_n hx hb dX0_isFree_1 rfl (lv_at hl 1 rfl) ?_
  refine W.callR (W.runV (As := [.int x]) (rest := []) ⟨hx, hb, hml, hown, hts⟩ (c_X0_turnOf l dC dI cs a n f x hB) (cwV 1 hts gX0_isFree_X0_turnOf rfl rfl rfl (by decide +kernel) ⟨Nat.le_of_ble_eq_true rfl, Nat.le_of_ble_eq_true rfl⟩) (rd_preV (q := (RX0, TX0, 3)) hP hK 3 rfl rfl) rfl rfl hl.1 rfl (lv_room (Nat.le_of_ble_eq_true rfl)) dX0_isFree_2 ⟨Nat.zero_le _, Nat.zero_le _⟩) ?_
  refine W.eq (g2 := F0 m 5 ls (.int (x_turn n f x) :: [])) rfl ?_
  refine lv_iconst (v := (-1)) hx hb dX0_isFree_5 (by decide) ?_
  refine lv_icmp_ne (tgt := 13) hx hb dX0_isFree_6 (by decide) (fun c_1 => ?_) (fun c_1 => ?_)
  · refine lv_iconst (v := nI 0) hx hb dX0_isFree_13 (by decide) ?_
    refine tp_eq (b_0 (by first | (simp [c_1]; done) | (simp [nI_0, c_1]; done) | (simp [c_1]; omega)) : _ = b2i (decide (x_turn n f x = -1))) ?_
    exact rd_zret hx hb hr hlocks dX0_isFree_14
  · refine lv_iconst (v := nI 1) hx hb dX0_isFree_9 (by decide) ?_
    refine lv_goto (tgt := 14) hx hb dX0_isFree_10 (by decide) ?_
    refine tp_eq (b_1 (by first | (simp [c_1]; done) | (simp [nI_0, c_1]; done) | (simp [c_1]; omega)) : _ = b2i (decide (x_turn n f x = -1))) ?_
    exact rd_zret hx hb hr hlocks dX0_isFree_14

set_option maxHeartbeats 4000000 in
set_option maxRecDepth 100000 in
theorem c_X1_total (l : Launch) (dC : Nat → ClassId) (dI : Nat → Nat → Nat) (cs : ClassId × ClassId) (a n : Nat → Nat) (f : Nat → Nat → Int32) (hB : x_bd n)  : Met l yX1_total wsX1_total ({ frames := 0, cells := 0, slots := 0, locals := 0 }) (rdPc (dC, dI) vwCl (wX cs a n f) (tyl cs) [.ref (a 1)]) (QcRead (nI (n 1))) 0 0 (fun _ => False) := by
  refine rd_of (cc := cX1_total) (maxL := 1) (ret := (some .int)) (own := RX1) (by decide) rfl rfl (Nat.le_of_ble_eq_true rfl) ?_
  intro p e s m below meth c hx hb hr hml hts hown hlocks hP hK ls hl
  have hl : lv_has ls 1 [(0, .ref (a 1))] := hl
  have hinX1 : ∀ w ∈ wsX10, w ∈ wsX1_total := by decide +kernel
  obtain ⟨B1, B2, B3, B4, B5, B6, B7, B8, B9, B10, B11, B12, B13, B14, B15⟩ := id hB
  refine lv_aload_n hx hb dX1_total_0 rfl (lv_at hl 0 rfl) ?_
  refine va_get (D := (dC, dI)) (ci := 2) (v := .ref (a 7)) (C := RX1) (T := TX1) (N := 5) hx hb hts hinX1 hown hK hP 1 rfl rfl 0 (by decide) (hts (.fieldLink RX1 9 "RenameRows$Names" "held" "[I") (by decide +kernel)) (fun _ h9 => h9) rfl dX1_total_1 ?_
  refine va_alen (D := (dC, dI)) hx hb hK hP 7 0 rfl rfl (v := nI (n 1)) rfl dX1_total_4 ?_
  exact rd_iret hx hb hr hlocks dX1_total_5

set_option maxHeartbeats 4000000 in
set_option maxRecDepth 100000 in
theorem c_X1_isName (l : Launch) (dC : Nat → ClassId) (dI : Nat → Nat → Nat) (cs : ClassId × ClassId) (a n : Nat → Nat) (f : Nat → Nat → Int32) (x : Int32) (hB : x_bd n)  : Met l yX1_isName wsX1_isName ({ frames := 0, cells := 0, slots := 0, locals := 0 }) (rdPc (dC, dI) vwCl (wX cs a n f) (tyl cs) [.ref (a 1), .int x]) (QcRead (b2i (inB x (n 1)))) 0 0 (fun _ => False) := by
  refine rd_of (cc := cX1_isName) (maxL := 2) (ret := (some .boolean)) (own := RX1) (by decide) rfl rfl (Nat.le_of_ble_eq_true rfl) ?_
  intro p e s m below meth c hx hb hr hml hts hown hlocks hP hK ls hl
  have hl : lv_has ls 2 [(0, .ref (a 1)), (1, .int x)] := hl
  have hinX1 : ∀ w ∈ wsX10, w ∈ wsX1_isName := by decide +kernel
  obtain ⟨B1, B2, B3, B4, B5, B6, B7, B8, B9, B10, B11, B12, B13, B14, B15⟩ := id hB
  refine lv_iload_n hx hb dX1_isName_0 rfl (lv_at hl 1 rfl) ?_
  refine lv_if_lt (tgt := 17) hx hb dX1_isName_1 (by decide) (fun c_1 => ?_) (fun c_1 => ?_)
  · refine lv_iconst (v := nI 0) hx hb dX1_isName_17 (by decide) ?_
    refine tp_eq (b_0 (by first | exact inB_lt c_1 | exact inB_in c_1 c_2 | exact inB_ge' c_2) : _ = b2i (inB x (n 1))) ?_
    exact rd_zret hx hb hr hlocks dX1_isName_18
  · refine lv_iload_n hx hb dX1_isName_4 rfl (lv_at hl 1 rfl) ?_
    refine lv_aload_n hx hb dX1_isName_5 rfl (lv_at hl 0 rfl) ?_
    refine va_get (D := (dC, dI)) (ci := 2) (v := .ref (a 7)) (C := RX1) (T := TX1) (N := 5) hx hb hts hinX1 hown hK hP 1 rfl rfl 0 (by decide) (hts (.fieldLink RX1 9 "RenameRows$Names" "held" "[I") (by decide +kernel)) (fun _ h9 => h9) rfl dX1_isName_6 ?_
    refine va_alen (D := (dC, dI)) hx hb hK hP 7 0 rfl rfl (v := nI (n 1)) rfl dX1_isName_9 ?_
    refine lv_icmp_ge (tgt := 17) hx hb dX1_isName_10 (by decide) (fun c_2 => ?_) (fun c_2 => ?_)
    · refine lv_iconst (v := nI 0) hx hb dX1_isName_17 (by decide) ?_
      refine tp_eq (b_0 (by first | exact inB_lt c_1 | exact inB_in c_1 c_2 | exact inB_ge' c_2) : _ = b2i (inB x (n 1))) ?_
      exact rd_zret hx hb hr hlocks dX1_isName_18
    · refine lv_iconst (v := nI 1) hx hb dX1_isName_13 (by decide) ?_
      refine lv_goto (tgt := 18) hx hb dX1_isName_14 (by decide) ?_
      refine tp_eq (b_1 (by first | exact inB_lt c_1 | exact inB_in c_1 c_2 | exact inB_ge' c_2) : _ = b2i (inB x (n 1))) ?_
      exact rd_zret hx hb hr hlocks dX1_isName_18

set_option maxHeartbeats 4000000 in
set_option maxRecDepth 100000 in
theorem c_X1_sharesOf (l : Launch) (dC : Nat → ClassId) (dI : Nat → Nat → Nat) (cs : ClassId × ClassId) (a n : Nat → Nat) (f : Nat → Nat → Int32) (x : Int32) (hB : x_bd n)  : Met l yX1_sharesOf wsX1_sharesOf ({ frames := 1, cells := 0, slots := 0, locals := 21 }) (rdPc (dC, dI) vwCl (wX cs a n f) (tyl cs) [.ref (a 1), .int x]) (QcRead (x_sh n f x)) 0 0 (fun _ => False) := by
  refine rd_of (cc := cX1_sharesOf) (maxL := 2) (ret := (some .int)) (own := RX1) (by decide) rfl rfl (Nat.le_of_ble_eq_true rfl) ?_
  intro p e s m below meth c hx hb hr hml hts hown hlocks hP hK ls hl
  have hl : lv_has ls 2 [(0, .ref (a 1)), (1, .int x)] := hl
  have hinX1 : ∀ w ∈ wsX10, w ∈ wsX1_sharesOf := by decide +kernel
  obtain ⟨B1, B2, B3, B4, B5, B6, B7, B8, B9, B10, B11, B12, B13, B14, B15⟩ := id hB
  refine lv_aload_n hx hb dX1_sharesOf_0 rfl (lv_at hl 0 rfl) ?_
  refine lv_iload_n hx hb dX1_sharesOf_1 rfl (lv_at hl 1 rfl) ?_
  refine W.callR (W.runV (As := [.int x]) (rest := []) ⟨hx, hb, hml, hown, hts⟩ (c_X1_isName l dC dI cs a n f x hB) (cwV 1 hts gX1_sharesOf_X1_isName rfl rfl rfl (by decide +kernel) ⟨Nat.le_of_ble_eq_true rfl, Nat.le_of_ble_eq_true rfl⟩) (rd_preV (q := (RX1, TX1, 5)) hP hK 1 rfl rfl) rfl rfl hl.1 rfl (lv_room (Nat.le_of_ble_eq_true rfl)) dX1_sharesOf_2 ⟨Nat.zero_le _, Nat.zero_le _⟩) ?_
  refine W.eq (g2 := F0 m 5 ls (.int (b2i (inB x (n 1))) :: [])) rfl ?_
  refine lv_if_eq (tgt := 17) hx hb dX1_sharesOf_5 (by decide) (fun c_1 => ?_) (fun c_1 => ?_)
  · have c_1 : inB x (n 1) = false := b2i_f c_1
    refine lv_iconst (v := nI 0) hx hb dX1_sharesOf_17 (by decide) ?_
    refine tp_eq (show _ = x_sh n f x by first | (simp [x_sh, c_1]; done) | (simp [nI_0, x_sh, c_1]; done) | (simp [x_sh, c_1]; omega)) ?_
    exact rd_iret hx hb hr hlocks dX1_sharesOf_18
  · have c_1 : inB x (n 1) = true := b2i_t c_1
    obtain ⟨jx, hjx, rfl⟩ := inB_t c_1 (by omega)
    refine lv_aload_n hx hb dX1_sharesOf_8 rfl (lv_at hl 0 rfl) ?_
    refine va_get (D := (dC, dI)) (ci := 2) (v := .ref (a 7)) (C := RX1) (T := TX1) (N := 5) hx hb hts hinX1 hown hK hP 1 rfl rfl 0 (by decide) (hts (.fieldLink RX1 9 "RenameRows$Names" "held" "[I") (by decide +kernel)) (fun _ h9 => h9) rfl dX1_sharesOf_9 ?_
    refine lv_iload_n hx hb dX1_sharesOf_12 rfl (lv_at hl 1 rfl) ?_
    refine ar_ld (D := (dC, dI)) (n := n 1) (f := f 7) hx hb hK hP 7 0 rfl rfl (by omega) (by omega) dX1_sharesOf_13 ?_
    refine lv_goto (tgt := 18) hx hb dX1_sharesOf_14 (by decide) ?_
    refine tp_eq (show _ = x_sh n f (nI jx) by first | (simp [x_sh, c_1, cl32_nI (show jx < 2 ^ 31 by omega)]; done) | (simp [nI_0, x_sh, c_1, cl32_nI (show jx < 2 ^ 31 by omega)]; done) | (simp [x_sh, c_1, cl32_nI (show jx < 2 ^ 31 by omega)]; omega)) ?_
    exact rd_iret hx hb hr hlocks dX1_sharesOf_18

set_option maxHeartbeats 4000000 in
set_option maxRecDepth 100000 in
theorem c_X1_freeCount (l : Launch) (dC : Nat → ClassId) (dI : Nat → Nat → Nat) (cs : ClassId × ClassId) (a n : Nat → Nat) (f : Nat → Nat → Int32) (hB : x_bd n)  : Met l yX1_freeCount wsX1_freeCount ({ frames := 0, cells := 0, slots := 0, locals := 0 }) (rdPc (dC, dI) vwCl (wX cs a n f) (tyl cs) [.ref (a 1)]) (QcRead (nI (n 7))) 0 0 (fun _ => False) := by
  refine rd_of (cc := cX1_freeCount) (maxL := 1) (ret := (some .int)) (own := RX1) (by decide) rfl rfl (Nat.le_of_ble_eq_true rfl) ?_
  intro p e s m below meth c hx hb hr hml hts hown hlocks hP hK ls hl
  have hl : lv_has ls 1 [(0, .ref (a 1))] := hl
  have hinX1 : ∀ w ∈ wsX10, w ∈ wsX1_freeCount := by decide +kernel
  obtain ⟨B1, B2, B3, B4, B5, B6, B7, B8, B9, B10, B11, B12, B13, B14, B15⟩ := id hB
  refine lv_aload_n hx hb dX1_freeCount_0 rfl (lv_at hl 0 rfl) ?_
  refine va_get (D := (dC, dI)) (ci := 2) (v := .int (nI (n 7))) (C := RX1) (T := TX1) (N := 5) hx hb hts hinX1 hown hK hP 1 rfl rfl 4 (by decide) (hts (.fieldLink RX1 22 "RenameRows$Names" "free" "I") (by decide +kernel)) (fun _ h9 => h9) rfl dX1_freeCount_1 ?_
  exact rd_iret hx hb hr hlocks dX1_freeCount_4

set_option maxHeartbeats 4000000 in
set_option maxRecDepth 100000 in
theorem c_X1_slotOf (l : Launch) (dC : Nat → ClassId) (dI : Nat → Nat → Nat) (cs : ClassId × ClassId) (a n : Nat → Nat) (f : Nat → Nat → Int32) (i : Nat) (hB : x_bd n) (h1 : i ≤ n 1)  : Met l yX1_slotOf wsX1_slotOf ({ frames := 0, cells := 0, slots := 0, locals := 0 }) (rdPc (dC, dI) vwCl (wX cs a n f) (tyl cs) [.ref (a 1), .int (nI i)]) (QcRead (nI (x_slot n i))) 0 0 (fun _ => False) := by
  refine rd_of (cc := cX1_slotOf) (maxL := 3) (ret := (some .int)) (own := RX1) (by decide) rfl rfl (Nat.le_of_ble_eq_true rfl) ?_
  intro p e s m below meth c hx hb hr hml hts hown hlocks hP hK ls hl
  have hl : lv_has ls 3 [(0, .ref (a 1)), (1, .int (nI i))] := hl
  have hinX1 : ∀ w ∈ wsX10, w ∈ wsX1_slotOf := by decide +kernel
  obtain ⟨B1, B2, B3, B4, B5, B6, B7, B8, B9, B10, B11, B12, B13, B14, B15⟩ := id hB
  refine lv_aload_n hx hb dX1_slotOf_0 rfl (lv_at hl 0 rfl) ?_
  refine va_get (D := (dC, dI)) (ci := 2) (v := .int (nI (n 6))) (C := RX1) (T := TX1) (N := 5) hx hb hts hinX1 hown hK hP 1 rfl rfl 3 (by decide) (hts (.fieldLink RX1 34 "RenameRows$Names" "first" "I") (by decide +kernel)) (fun _ h9 => h9) rfl dX1_slotOf_1 ?_
  refine lv_iload_n hx hb dX1_slotOf_4 rfl (lv_at hl 1 rfl) ?_
  refine lv_iadd hx hb dX1_slotOf_5 ?_
  refine tp_eq (nI_add (n 6) i) ?_
  refine lv_istore_n (lv' := [(2, .int (nI ((n 6) + i))), (0, .ref (a 1)), (1, .int (nI i))]) hx hb dX1_slotOf_6 rfl hl (by decide) rfl (fun ls hl => ?_)
  refine lv_iload_n hx hb dX1_slotOf_7 rfl (lv_at hl 0 rfl) ?_
  refine lv_aload_n hx hb dX1_slotOf_8 rfl (lv_at hl 1 rfl) ?_
  refine va_get (D := (dC, dI)) (ci := 2) (v := .ref (a 9)) (C := RX1) (T := TX1) (N := 5) hx hb hts hinX1 hown hK hP 1 rfl rfl 2 (by decide) (hts (.fieldLink RX1 19 "RenameRows$Names" "queued" "[I") (by decide +kernel)) (fun _ h9 => h9) rfl dX1_slotOf_9 ?_
  refine va_alen (D := (dC, dI)) hx hb hK hP 9 0 rfl rfl (v := nI (n 1)) rfl dX1_slotOf_12 ?_
  refine lv_icmp_ge (tgt := 20) hx hb dX1_slotOf_13 (by decide) (fun c_1 => ?_) (fun c_1 => ?_)
  · have c_1 : (n 1) ≤ ((n 6) + i) := (nI_leI (by omega) (by omega)).mp c_1
    refine lv_iload_n hx hb dX1_slotOf_20 rfl (lv_at hl 0 rfl) ?_
    refine lv_aload_n hx hb dX1_slotOf_21 rfl (lv_at hl 1 rfl) ?_
    refine va_get (D := (dC, dI)) (ci := 2) (v := .ref (a 9)) (C := RX1) (T := TX1) (N := 5) hx hb hts hinX1 hown hK hP 1 rfl rfl 2 (by decide) (hts (.fieldLink RX1 19 "RenameRows$Names" "queued" "[I") (by decide +kernel)) (fun _ h9 => h9) rfl dX1_slotOf_22 ?_
    refine va_alen (D := (dC, dI)) hx hb hK hP 9 0 rfl rfl (v := nI (n 1)) rfl dX1_slotOf_25 ?_
    refine lv_isub hx hb dX1_slotOf_26 ?_
    refine tp_eq (pk_sub (by omega)) ?_
    refine tp_eq (show _ = nI (x_slot n i) by exact congrArg nI (by unfold x_slot; split <;> omega)) ?_
    exact rd_iret hx hb hr hlocks dX1_slotOf_27
  · have c_1 : ¬ (n 1) ≤ ((n 6) + i) := fun q => c_1 ((nI_leI (by omega) (by omega)).mpr q)
    refine lv_iload_n hx hb dX1_slotOf_16 rfl (lv_at hl 0 rfl) ?_
    refine lv_goto (tgt := 27) hx hb dX1_slotOf_17 (by decide) ?_
    refine tp_eq (show _ = nI (x_slot n i) by exact congrArg nI (by unfold x_slot; split <;> omega)) ?_
    exact rd_iret hx hb hr hlocks dX1_slotOf_27

set_option maxHeartbeats 4000000 in
set_option maxRecDepth 100000 in
theorem c_X1_isReadyOrNone (l : Launch) (dC : Nat → ClassId) (dI : Nat → Nat → Nat) (cs : ClassId × ClassId) (a n : Nat → Nat) (f : Nat → Nat → Int32) (x : Int32) (hB : x_bd n)  : Met l yX1_isReadyOrNone wsX1_isReadyOrNone ({ frames := 1, cells := 0, slots := 0, locals := 21 }) (rdPc (dC, dI) vwCl (wX cs a n f) (tyl cs) [.ref (a 1), .int x]) (QcRead (b2i (x_rdy n f x))) 0 0 (fun _ => False) := by
  refine rd_of (cc := cX1_isReadyOrNone) (maxL := 2) (ret := (some .boolean)) (own := RX1) (by decide) rfl rfl (Nat.le_of_ble_eq_true rfl) ?_
  intro p e s m below meth c hx hb hr hml hts hown hlocks hP hK ls hl
  have hl : lv_has ls 2 [(0, .ref (a 1)), (1, .int x)] := hl
  have hinX1 : ∀ w ∈ wsX10, w ∈ wsX1_isReadyOrNone := by decide +kernel
  obtain ⟨B1, B2, B3, B4, B5, B6, B7, B8, B9, B10, B11, B12, B13, B14, B15⟩ := id hB
  refine lv_aload_n hx hb dX1_isReadyOrNone_0 rfl (lv_at hl 0 rfl) ?_
  refine lv_iload_n hx hb dX1_isReadyOrNone_1 rfl (lv_at hl 1 rfl) ?_
  refine W.callR (W.runV (As := [.int x]) (rest := []) ⟨hx, hb, hml, hown, hts⟩ (c_X1_isName l dC dI cs a n f x hB) (cwV 1 hts gX1_isReadyOrNone_X1_isName rfl rfl rfl (by decide +kernel) ⟨Nat.le_of_ble_eq_true rfl, Nat.le_of_ble_eq_true rfl⟩) (rd_preV (q := (RX1, TX1, 5)) hP hK 1 rfl rfl) rfl rfl hl.1 rfl (lv_room (Nat.le_of_ble_eq_true rfl)) dX1_isReadyOrNone_2 ⟨Nat.zero_le _, Nat.zero_le _⟩) ?_
  refine W.eq (g2 := F0 m 5 ls (.int (b2i (inB x (n 1))) :: [])) rfl ?_
  refine lv_if_eq (tgt := 17) hx hb dX1_isReadyOrNone_5 (by decide) (fun c_1 => ?_) (fun c_1 => ?_)
  · have c_1 : inB x (n 1) = false := b2i_f c_1
    refine lv_iconst (v := nI 1) hx hb dX1_isReadyOrNone_17 (by decide) ?_
    refine lv_goto (tgt := 22) hx hb dX1_isReadyOrNone_18 (by decide) ?_
    refine tp_eq (b_1 (by first | (simp [x_rdy, c_1]; done) | (simp [nI_0, x_rdy, c_1]; done) | (simp [x_rdy, c_1]; omega)) : _ = b2i (x_rdy n f x)) ?_
    exact rd_zret hx hb hr hlocks dX1_isReadyOrNone_22
  · have c_1 : inB x (n 1) = true := b2i_t c_1
    obtain ⟨jx, hjx, rfl⟩ := inB_t c_1 (by omega)
    refine lv_aload_n hx hb dX1_isReadyOrNone_8 rfl (lv_at hl 0 rfl) ?_
    refine va_get (D := (dC, dI)) (ci := 2) (v := .ref (a 8)) (C := RX1) (T := TX1) (N := 5) hx hb hts hinX1 hown hK hP 1 rfl rfl 1 (by decide) (hts (.fieldLink RX1 15 "RenameRows$Names" "ready" "[Z") (by decide +kernel)) (fun _ h9 => h9) rfl dX1_isReadyOrNone_9 ?_
    refine lv_iload_n hx hb dX1_isReadyOrNone_12 rfl (lv_at hl 1 rfl) ?_
    refine ar_zld (D := (dC, dI)) (n := n 1) (f := f 8) hx hb hK hP 8 1 rfl rfl (by omega) (by omega) dX1_isReadyOrNone_13 ?_
    refine lv_if_eq (tgt := 21) hx hb dX1_isReadyOrNone_14 (by decide) (fun c_2 => ?_) (fun c_2 => ?_)
    · refine lv_iconst (v := nI 0) hx hb dX1_isReadyOrNone_21 (by decide) ?_
      refine tp_eq (b_0 (by first | (simp [x_rdy, c_1, c_2, cl32_nI (show jx < 2 ^ 31 by omega)]; done) | (simp [nI_0, x_rdy, c_1, c_2, cl32_nI (show jx < 2 ^ 31 by omega)]; done) | (simp [x_rdy, c_1, c_2, cl32_nI (show jx < 2 ^ 31 by omega)]; omega)) : _ = b2i (x_rdy n f (nI jx))) ?_
      exact rd_zret hx hb hr hlocks dX1_isReadyOrNone_22
    · refine lv_iconst (v := nI 1) hx hb dX1_isReadyOrNone_17 (by decide) ?_
      refine lv_goto (tgt := 22) hx hb dX1_isReadyOrNone_18 (by decide) ?_
      refine tp_eq (b_1 (by first | (simp [x_rdy, c_1, c_2, cl32_nI (show jx < 2 ^ 31 by omega)]; done) | (simp [nI_0, x_rdy, c_1, c_2, cl32_nI (show jx < 2 ^ 31 by omega)]; done) | (simp [x_rdy, c_1, c_2, cl32_nI (show jx < 2 ^ 31 by omega)]; omega)) : _ = b2i (x_rdy n f (nI jx))) ?_
      exact rd_zret hx hb hr hlocks dX1_isReadyOrNone_22

set_option maxHeartbeats 4000000 in
set_option maxRecDepth 100000 in
theorem c_X1_freeAt (l : Launch) (dC : Nat → ClassId) (dI : Nat → Nat → Nat) (cs : ClassId × ClassId) (a n : Nat → Nat) (f : Nat → Nat → Int32) (x : Int32) (hB : x_bd n)  : Met l yX1_freeAt wsX1_freeAt ({ frames := 1, cells := 0, slots := 0, locals := 22 }) (rdPc (dC, dI) vwCl (wX cs a n f) (tyl cs) [.ref (a 1), .int x]) (QcRead (x_fa n f x)) 0 0 (fun _ => False) := by
  refine rd_of (cc := cX1_freeAt) (maxL := 2) (ret := (some .int)) (own := RX1) (by decide) rfl rfl (Nat.le_of_ble_eq_true rfl) ?_
  intro p e s m below meth c hx hb hr hml hts hown hlocks hP hK ls hl
  have hl : lv_has ls 2 [(0, .ref (a 1)), (1, .int x)] := hl
  have hinX1 : ∀ w ∈ wsX10, w ∈ wsX1_freeAt := by decide +kernel
  obtain ⟨B1, B2, B3, B4, B5, B6, B7, B8, B9, B10, B11, B12, B13, B14, B15⟩ := id hB
  refine lv_iload_n hx hb dX1_freeAt_0 rfl (lv_at hl 1 rfl) ?_
  refine lv_if_lt (tgt := 25) hx hb dX1_freeAt_1 (by decide) (fun c_1 => ?_) (fun c_1 => ?_)
  · refine lv_iconst (v := (-1)) hx hb dX1_freeAt_25 (by decide) ?_
    refine tp_eq (show _ = x_fa n f x by first | (simp [x_fa, inB_lt c_1]; done) | (simp [x_fa, inB_ge' c_2]; done) | (have q9 := inB_in c_1 c_2; simp [x_fa, q9, cl32_nI (show jx < 2 ^ 31 by omega)]; done)) ?_
    exact rd_iret hx hb hr hlocks dX1_freeAt_26
  · refine lv_iload_n hx hb dX1_freeAt_4 rfl (lv_at hl 1 rfl) ?_
    refine lv_aload_n hx hb dX1_freeAt_5 rfl (lv_at hl 0 rfl) ?_
    refine va_get (D := (dC, dI)) (ci := 2) (v := .int (nI (n 7))) (C := RX1) (T := TX1) (N := 5) hx hb hts hinX1 hown hK hP 1 rfl rfl 4 (by decide) (hts (.fieldLink RX1 22 "RenameRows$Names" "free" "I") (by decide +kernel)) (fun _ h9 => h9) rfl dX1_freeAt_6 ?_
    refine lv_icmp_ge (tgt := 25) hx hb dX1_freeAt_9 (by decide) (fun c_2 => ?_) (fun c_2 => ?_)
    · refine lv_iconst (v := (-1)) hx hb dX1_freeAt_25 (by decide) ?_
      refine tp_eq (show _ = x_fa n f x by first | (simp [x_fa, inB_lt c_1]; done) | (simp [x_fa, inB_ge' c_2]; done) | (have q9 := inB_in c_1 c_2; simp [x_fa, q9, cl32_nI (show jx < 2 ^ 31 by omega)]; done)) ?_
      exact rd_iret hx hb hr hlocks dX1_freeAt_26
    · obtain ⟨jx, hjx, rfl⟩ := inB_t (inB_in c_1 c_2) (by omega)
      refine lv_aload_n hx hb dX1_freeAt_12 rfl (lv_at hl 0 rfl) ?_
      refine va_get (D := (dC, dI)) (ci := 2) (v := .ref (a 9)) (C := RX1) (T := TX1) (N := 5) hx hb hts hinX1 hown hK hP 1 rfl rfl 2 (by decide) (hts (.fieldLink RX1 19 "RenameRows$Names" "queued" "[I") (by decide +kernel)) (fun _ h9 => h9) rfl dX1_freeAt_13 ?_
      refine lv_aload_n hx hb dX1_freeAt_16 rfl (lv_at hl 0 rfl) ?_
      refine lv_iload_n hx hb dX1_freeAt_17 rfl (lv_at hl 1 rfl) ?_
      refine W.callR (W.runV (As := [.int (nI jx)]) (rest := [.ref (a 9)]) ⟨hx, hb, hml, hown, hts⟩ (c_X1_slotOf l dC dI cs a n f jx hB (by omega)) (cwV 1 hts gX1_freeAt_X1_slotOf rfl rfl rfl (by decide +kernel) ⟨Nat.le_of_ble_eq_true rfl, Nat.le_of_ble_eq_true rfl⟩) (rd_preV (q := (RX1, TX1, 5)) hP hK 1 rfl rfl) rfl rfl hl.1 rfl (lv_room (Nat.le_of_ble_eq_true rfl)) dX1_freeAt_18 ⟨Nat.zero_le _, Nat.zero_le _⟩) ?_
      refine W.eq (g2 := F0 m 21 ls (.int (nI (x_slot n jx)) :: [.ref (a 9)])) rfl ?_
      have k_3 := x_slot_lt (n := n) (k := jx) (by omega) (by omega)
      refine ar_ld (D := (dC, dI)) (n := n 1) (f := f 9) hx hb hK hP 9 0 rfl rfl (by omega) (by omega) dX1_freeAt_21 ?_
      refine lv_goto (tgt := 26) hx hb dX1_freeAt_22 (by decide) ?_
      refine tp_eq (show _ = x_fa n f (nI jx) by first | (simp [x_fa, inB_lt c_1]; done) | (simp [x_fa, inB_ge' c_2]; done) | (have q9 := inB_in c_1 c_2; simp [x_fa, q9, cl32_nI (show jx < 2 ^ 31 by omega)]; done)) ?_
      exact rd_iret hx hb hr hlocks dX1_freeAt_26
end
section
set_option maxHeartbeats 4000000 in
set_option maxRecDepth 100000 in
theorem c_X3_isRegister (l : Launch) (dC : Nat → ClassId) (dI : Nat → Nat → Nat) (cs : ClassId × ClassId) (a n : Nat → Nat) (f : Nat → Nat → Int32) (x : Int32) (hB : x_bd n)  : Met l yX3_isRegister wsX3_isRegister ({ frames := 0, cells := 0, slots := 0, locals := 0 }) (rdPc (dC, dI) vwCl (wX cs a n f) (tyl cs) [.ref (a 0), .int x]) (QcRead (b2i (inB x (n 0)))) 0 0 (fun _ => False) := by
  refine rd_of (cc := cX3_isRegister) (maxL := 2) (ret := (some .boolean)) (own := RX3) (by decide) rfl rfl (Nat.le_of_ble_eq_true rfl) ?_
  intro p e s m below meth c hx hb hr hml hts hown hlocks hP hK ls hl
  have hl : lv_has ls 2 [(0, .ref (a 0)), (1, .int x)] := hl
  have hinX3 : ∀ w ∈ wsX30, w ∈ wsX3_isRegister := by decide +kernel
  obtain ⟨B1, B2, B3, B4, B5, B6, B7, B8, B9, B10, B11, B12, B13, B14, B15⟩ := id hB
  refine lv_iload_n hx hb dX3_isRegister_0 rfl (lv_at hl 1 rfl) ?_
  refine lv_if_lt (tgt := 17) hx hb dX3_isRegister_1 (by decide) (fun c_1 => ?_) (fun c_1 => ?_)
  · refine lv_iconst (v := nI 0) hx hb dX3_isRegister_17 (by decide) ?_
    refine tp_eq (b_0 (by first | exact inB_lt c_1 | exact inB_in c_1 c_2 | exact inB_ge' c_2) : _ = b2i (inB x (n 0))) ?_
    exact rd_zret hx hb hr hlocks dX3_isRegister_18
  · refine lv_iload_n hx hb dX3_isRegister_4 rfl (lv_at hl 1 rfl) ?_
    refine lv_aload_n hx hb dX3_isRegister_5 rfl (lv_at hl 0 rfl) ?_
    refine va_get (D := (dC, dI)) (ci := 4) (v := .ref (a 4)) (C := RX3) (T := TX3) (N := 9) hx hb hts hinX3 hown hK hP 0 rfl rfl 3 (by decide) (hts (.fieldLink RX3 38 "RenameRows" "nameNow" "[I") (by decide +kernel)) (fun _ h9 => h9) rfl dX3_isRegister_6 ?_
    refine va_alen (D := (dC, dI)) hx hb hK hP 4 0 rfl rfl (v := nI (n 0)) rfl dX3_isRegister_9 ?_
    refine lv_icmp_ge (tgt := 17) hx hb dX3_isRegister_10 (by decide) (fun c_2 => ?_) (fun c_2 => ?_)
    · refine lv_iconst (v := nI 0) hx hb dX3_isRegister_17 (by decide) ?_
      refine tp_eq (b_0 (by first | exact inB_lt c_1 | exact inB_in c_1 c_2 | exact inB_ge' c_2) : _ = b2i (inB x (n 0))) ?_
      exact rd_zret hx hb hr hlocks dX3_isRegister_18
    · refine lv_iconst (v := nI 1) hx hb dX3_isRegister_13 (by decide) ?_
      refine lv_goto (tgt := 18) hx hb dX3_isRegister_14 (by decide) ?_
      refine tp_eq (b_1 (by first | exact inB_lt c_1 | exact inB_in c_1 c_2 | exact inB_ge' c_2) : _ = b2i (inB x (n 0))) ?_
      exact rd_zret hx hb hr hlocks dX3_isRegister_18

set_option maxHeartbeats 4000000 in
set_option maxRecDepth 100000 in
theorem c_X3_isRegisterOrNone (l : Launch) (dC : Nat → ClassId) (dI : Nat → Nat → Nat) (cs : ClassId × ClassId) (a n : Nat → Nat) (f : Nat → Nat → Int32) (x : Int32) (hB : x_bd n)  : Met l yX3_isRegisterOrNone wsX3_isRegisterOrNone ({ frames := 1, cells := 0, slots := 0, locals := 21 }) (rdPc (dC, dI) vwCl (wX cs a n f) (tyl cs) [.ref (a 0), .int x]) (QcRead (b2i (decide (x = -1) || inB x (n 0)))) 0 0 (fun _ => False) := by
  refine rd_of (cc := cX3_isRegisterOrNone) (maxL := 2) (ret := (some .boolean)) (own := RX3) (by decide) rfl rfl (Nat.le_of_ble_eq_true rfl) ?_
  intro p e s m below meth c hx hb hr hml hts hown hlocks hP hK ls hl
  have hl : lv_has ls 2 [(0, .ref (a 0)), (1, .int x)] := hl
  obtain ⟨B1, B2, B3, B4, B5, B6, B7, B8, B9, B10, B11, B12, B13, B14, B15⟩ := id hB
  refine lv_iload_n hx hb dX3_isRegisterOrNone_0 rfl (lv_at hl 1 rfl) ?_
  refine lv_iconst (v := (-1)) hx hb dX3_isRegisterOrNone_1 (by decide) ?_
  refine lv_icmp_eq (tgt := 13) hx hb dX3_isRegisterOrNone_2 (by decide) (fun c_1 => ?_) (fun c_1 => ?_)
  · refine lv_iconst (v := nI 1) hx hb dX3_isRegisterOrNone_13 (by decide) ?_
    refine lv_goto (tgt := 18) hx hb dX3_isRegisterOrNone_14 (by decide) ?_
    refine tp_eq (b_1 (by first | (simp [c_1]; done) | (simp [nI_0, c_1]; done) | (simp [c_1]; omega)) : _ = b2i (decide (x = -1) || inB x (n 0))) ?_
    exact rd_zret hx hb hr hlocks dX3_isRegisterOrNone_18
  · refine lv_aload_n hx hb dX3_isRegisterOrNone_5 rfl (lv_at hl 0 rfl) ?_
    refine lv_iload_n hx hb dX3_isRegisterOrNone_6 rfl (lv_at hl 1 rfl) ?_
    refine W.callR (W.runV (As := [.int x]) (rest := []) ⟨hx, hb, hml, hown, hts⟩ (c_X3_isRegister l dC dI cs a n f x hB) (cwV 1 hts gX3_isRegisterOrNone_X3_isRegister rfl rfl rfl (by decide +kernel) ⟨Nat.le_of_ble_eq_true rfl, Nat.le_of_ble_eq_true rfl⟩) (rd_preV (q := (RX3, TX3, 9)) hP hK 0 rfl rfl) rfl rfl hl.1 rfl (lv_room (Nat.le_of_ble_eq_true rfl)) dX3_isRegisterOrNone_7 ⟨Nat.zero_le _, Nat.zero_le _⟩) ?_
    refine W.eq (g2 := F0 m 10 ls (.int (b2i (inB x (n 0))) :: [])) rfl ?_
    refine lv_if_eq (tgt := 17) hx hb dX3_isRegisterOrNone_10 (by decide) (fun c_2 => ?_) (fun c_2 => ?_)
    · have c_2 : inB x (n 0) = false := b2i_f c_2
      refine lv_iconst (v := nI 0) hx hb dX3_isRegisterOrNone_17 (by decide) ?_
      refine tp_eq (b_0 (by first | (simp [c_1, c_2]; done) | (simp [nI_0, c_1, c_2]; done) | (simp [c_1, c_2]; omega)) : _ = b2i (decide (x = -1) || inB x (n 0))) ?_
      exact rd_zret hx hb hr hlocks dX3_isRegisterOrNone_18
    · have c_2 : inB x (n 0) = true := b2i_t c_2
      obtain ⟨jx, hjx, rfl⟩ := inB_t c_2 (by omega)
      refine lv_iconst (v := nI 1) hx hb dX3_isRegisterOrNone_13 (by decide) ?_
      refine lv_goto (tgt := 18) hx hb dX3_isRegisterOrNone_14 (by decide) ?_
      refine tp_eq (b_1 (by first | (simp [c_1, c_2, cl32_nI (show jx < 2 ^ 31 by omega)]; done) | (simp [nI_0, c_1, c_2, cl32_nI (show jx < 2 ^ 31 by omega)]; done) | (simp [c_1, c_2, cl32_nI (show jx < 2 ^ 31 by omega)]; omega)) : _ = b2i (decide ((nI jx) = -1) || inB (nI jx) (n 0))) ?_
      exact rd_zret hx hb hr hlocks dX3_isRegisterOrNone_18

set_option maxHeartbeats 4000000 in
set_option maxRecDepth 100000 in
theorem c_X3_currentName (l : Launch) (dC : Nat → ClassId) (dI : Nat → Nat → Nat) (cs : ClassId × ClassId) (a n : Nat → Nat) (f : Nat → Nat → Int32) (x : Int32) (hB : x_bd n)  : Met l yX3_currentName wsX3_currentName ({ frames := 1, cells := 0, slots := 0, locals := 21 }) (rdPc (dC, dI) vwCl (wX cs a n f) (tyl cs) [.ref (a 0), .int x]) (QcRead (x_cur n f x)) 0 0 (fun _ => False) := by
  refine rd_of (cc := cX3_currentName) (maxL := 2) (ret := (some .int)) (own := RX3) (by decide) rfl rfl (Nat.le_of_ble_eq_true rfl) ?_
  intro p e s m below meth c hx hb hr hml hts hown hlocks hP hK ls hl
  have hl : lv_has ls 2 [(0, .ref (a 0)), (1, .int x)] := hl
  have hinX3 : ∀ w ∈ wsX30, w ∈ wsX3_currentName := by decide +kernel
  obtain ⟨B1, B2, B3, B4, B5, B6, B7, B8, B9, B10, B11, B12, B13, B14, B15⟩ := id hB
  refine lv_aload_n hx hb dX3_currentName_0 rfl (lv_at hl 0 rfl) ?_
  refine lv_iload_n hx hb dX3_currentName_1 rfl (lv_at hl 1 rfl) ?_
  refine W.callR (W.runV (As := [.int x]) (rest := []) ⟨hx, hb, hml, hown, hts⟩ (c_X3_isRegister l dC dI cs a n f x hB) (cwV 1 hts gX3_currentName_X3_isRegister rfl rfl rfl (by decide +kernel) ⟨Nat.le_of_ble_eq_true rfl, Nat.le_of_ble_eq_true rfl⟩) (rd_preV (q := (RX3, TX3, 9)) hP hK 0 rfl rfl) rfl rfl hl.1 rfl (lv_room (Nat.le_of_ble_eq_true rfl)) dX3_currentName_2 ⟨Nat.zero_le _, Nat.zero_le _⟩) ?_
  refine W.eq (g2 := F0 m 5 ls (.int (b2i (inB x (n 0))) :: [])) rfl ?_
  refine lv_if_eq (tgt := 17) hx hb dX3_currentName_5 (by decide) (fun c_1 => ?_) (fun c_1 => ?_)
  · have c_1 : inB x (n 0) = false := b2i_f c_1
    refine lv_iconst (v := (-1)) hx hb dX3_currentName_17 (by decide) ?_
    refine tp_eq (show _ = x_cur n f x by first | (simp [x_cur, c_1]; done) | (simp [nI_0, x_cur, c_1]; done) | (simp [x_cur, c_1]; omega)) ?_
    exact rd_iret hx hb hr hlocks dX3_currentName_18
  · have c_1 : inB x (n 0) = true := b2i_t c_1
    obtain ⟨jx, hjx, rfl⟩ := inB_t c_1 (by omega)
    refine lv_aload_n hx hb dX3_currentName_8 rfl (lv_at hl 0 rfl) ?_
    refine va_get (D := (dC, dI)) (ci := 4) (v := .ref (a 4)) (C := RX3) (T := TX3) (N := 9) hx hb hts hinX3 hown hK hP 0 rfl rfl 3 (by decide) (hts (.fieldLink RX3 38 "RenameRows" "nameNow" "[I") (by decide +kernel)) (fun _ h9 => h9) rfl dX3_currentName_9 ?_
    refine lv_iload_n hx hb dX3_currentName_12 rfl (lv_at hl 1 rfl) ?_
    refine ar_ld (D := (dC, dI)) (n := n 0) (f := f 4) hx hb hK hP 4 0 rfl rfl (by omega) (by omega) dX3_currentName_13 ?_
    refine lv_goto (tgt := 18) hx hb dX3_currentName_14 (by decide) ?_
    refine tp_eq (show _ = x_cur n f (nI jx) by first | (simp [x_cur, c_1, cl32_nI (show jx < 2 ^ 31 by omega)]; done) | (simp [nI_0, x_cur, c_1, cl32_nI (show jx < 2 ^ 31 by omega)]; done) | (simp [x_cur, c_1, cl32_nI (show jx < 2 ^ 31 by omega)]; omega)) ?_
    exact rd_iret hx hb hr hlocks dX3_currentName_18

set_option maxHeartbeats 4000000 in
set_option maxRecDepth 100000 in
theorem c_X3_isAble (l : Launch) (dC : Nat → ClassId) (dI : Nat → Nat → Nat) (cs : ClassId × ClassId) (a n : Nat → Nat) (f : Nat → Nat → Int32) (j : Nat) (hB : x_bd n) (h1 : j < n 2)  : Met l yX3_isAble wsX3_isAble ({ frames := 3, cells := 0, slots := 0, locals := 64 }) (rdPc (dC, dI) vwCl (wX cs a n f) (tyl cs) [.ref (a 0), .int (nI j)]) (QcRead (b2i (x_able n f j))) 0 0 (fun _ => False) := by
  refine rd_of (cc := cX3_isAble) (maxL := 2) (ret := (some .boolean)) (own := RX3) (by decide) rfl rfl (Nat.le_of_ble_eq_true rfl) ?_
  intro p e s m below meth c hx hb hr hml hts hown hlocks hP hK ls hl
  have hl : lv_has ls 2 [(0, .ref (a 0)), (1, .int (nI j))] := hl
  have hinX3 : ∀ w ∈ wsX30, w ∈ wsX3_isAble := by decide +kernel
  obtain ⟨B1, B2, B3, B4, B5, B6, B7, B8, B9, B10, B11, B12, B13, B14, B15⟩ := id hB
  refine lv_aload_n hx hb dX3_isAble_0 rfl (lv_at hl 0 rfl) ?_
  refine va_get (D := (dC, dI)) (ci := 4) (v := .ref (a 2)) (C := RX3) (T := TX3) (N := 9) hx hb hts hinX3 hown hK hP 0 rfl rfl 1 (by decide) (hts (.fieldLink RX3 27 "RenameRows" "ring" "LRenameRows$Ring;") (by decide +kernel)) (fun _ h9 => h9) rfl dX3_isAble_1 ?_
  refine lv_iload_n hx hb dX3_isAble_4 rfl (lv_at hl 1 rfl) ?_
  refine lv_iconst (v := nI 0) hx hb dX3_isAble_5 (by decide) ?_
  refine W.callR (W.runV (As := [.int (nI j), .int (nI 0)]) (rest := []) ⟨hx, hb, hml, hown, hts⟩ (c_X2_isInState l dC dI cs a n f (nI j) (nI 0) hB) (cwV 2 hts gX3_isAble_X2_isInState rfl rfl rfl (by decide +kernel) ⟨Nat.le_of_ble_eq_true rfl, Nat.le_of_ble_eq_true rfl⟩) (rd_preV (q := (RX2, TX2, 10)) hP hK 2 rfl rfl) rfl rfl hl.1 rfl (lv_room (Nat.le_of_ble_eq_true rfl)) dX3_isAble_6 ⟨Nat.zero_le _, Nat.zero_le _⟩) ?_
  refine W.eq (g2 := F0 m 9 ls (.int (b2i (x_isIn n f (nI j) (nI 0))) :: [])) rfl ?_
  refine lv_if_eq (tgt := 52) hx hb dX3_isAble_9 (by decide) (fun c_1 => ?_) (fun c_1 => ?_)
  · have c_1 : x_isIn n f (nI j) (nI 0) = false := b2i_f c_1
    refine lv_iconst (v := nI 0) hx hb dX3_isAble_52 (by decide) ?_
    refine tp_eq (b_0 (by first | (simp [x_able, c_1]; done) | (simp [nI_0, x_able, c_1]; done) | (simp [x_able, c_1]; omega)) : _ = b2i (x_able n f j)) ?_
    exact rd_zret hx hb hr hlocks dX3_isAble_53
  · have c_1 : x_isIn n f (nI j) (nI 0) = true := b2i_t c_1
    refine lv_aload_n hx hb dX3_isAble_12 rfl (lv_at hl 0 rfl) ?_
    refine va_get (D := (dC, dI)) (ci := 4) (v := .ref (a 1)) (C := RX3) (T := TX3) (N := 9) hx hb hts hinX3 hown hK hP 0 rfl rfl 0 (by decide) (hts (.fieldLink RX3 18 "RenameRows" "names" "LRenameRows$Names;") (by decide +kernel)) (fun _ h9 => h9) rfl dX3_isAble_13 ?_
    refine lv_aload_n hx hb dX3_isAble_16 rfl (lv_at hl 0 rfl) ?_
    refine va_get (D := (dC, dI)) (ci := 4) (v := .ref (a 2)) (C := RX3) (T := TX3) (N := 9) hx hb hts hinX3 hown hK hP 0 rfl rfl 1 (by decide) (hts (.fieldLink RX3 27 "RenameRows" "ring" "LRenameRows$Ring;") (by decide +kernel)) (fun _ h9 => h9) rfl dX3_isAble_17 ?_
    refine lv_iload_n hx hb dX3_isAble_20 rfl (lv_at hl 1 rfl) ?_
    refine W.callR (W.runV (As := [.int (nI j)]) (rest := [.ref (a 1)]) ⟨hx, hb, hml, hown, hts⟩ (c_X2_readAAt l dC dI cs a n f (nI j) hB) (cwV 1 hts gX3_isAble_X2_readAAt rfl rfl rfl (by decide +kernel) ⟨Nat.le_of_ble_eq_true rfl, Nat.le_of_ble_eq_true rfl⟩) (rd_preV (q := (RX2, TX2, 10)) hP hK 2 rfl rfl) rfl rfl hl.1 rfl (lv_room (Nat.le_of_ble_eq_true rfl)) dX3_isAble_21 ⟨Nat.zero_le _, Nat.zero_le _⟩) ?_
    refine W.eq (g2 := F0 m 24 ls (.int (x_at 10 n f (nI j)) :: [.ref (a 1)])) rfl ?_
    refine tp_eq (x_at_nI (by omega) (by omega)) ?_
    refine W.eq (g2 := F0 m 24 ls (.int (f 10 j) :: [.ref (a 1)])) rfl ?_
    refine W.callR (W.runV (As := [.int (f 10 j)]) (rest := []) ⟨hx, hb, hml, hown, hts⟩ (c_X1_isReadyOrNone l dC dI cs a n f (f 10 j) hB) (cwV 1 hts gX3_isAble_X1_isReadyOrNone rfl rfl rfl (by decide +kernel) ⟨Nat.le_of_ble_eq_true rfl, Nat.le_of_ble_eq_true rfl⟩) (rd_preV (q := (RX1, TX1, 5)) hP hK 1 rfl rfl) rfl rfl hl.1 rfl (lv_room (Nat.le_of_ble_eq_true rfl)) dX3_isAble_24 ⟨Nat.zero_le _, Nat.zero_le _⟩) ?_
    refine W.eq (g2 := F0 m 27 ls (.int (b2i (x_rdy n f (f 10 j))) :: [])) rfl ?_
    refine lv_if_eq (tgt := 52) hx hb dX3_isAble_27 (by decide) (fun c_2 => ?_) (fun c_2 => ?_)
    · have c_2 : x_rdy n f (f 10 j) = false := b2i_f c_2
      refine lv_iconst (v := nI 0) hx hb dX3_isAble_52 (by decide) ?_
      refine tp_eq (b_0 (by first | (simp [x_able, c_1, c_2]; done) | (simp [nI_0, x_able, c_1, c_2]; done) | (simp [x_able, c_1, c_2]; omega)) : _ = b2i (x_able n f j)) ?_
      exact rd_zret hx hb hr hlocks dX3_isAble_53
    · have c_2 : x_rdy n f (f 10 j) = true := b2i_t c_2
      refine lv_aload_n hx hb dX3_isAble_30 rfl (lv_at hl 0 rfl) ?_
      refine va_get (D := (dC, dI)) (ci := 4) (v := .ref (a 1)) (C := RX3) (T := TX3) (N := 9) hx hb hts hinX3 hown hK hP 0 rfl rfl 0 (by decide) (hts (.fieldLink RX3 18 "RenameRows" "names" "LRenameRows$Names;") (by decide +kernel)) (fun _ h9 => h9) rfl dX3_isAble_31 ?_
      refine lv_aload_n hx hb dX3_isAble_34 rfl (lv_at hl 0 rfl) ?_
      refine va_get (D := (dC, dI)) (ci := 4) (v := .ref (a 2)) (C := RX3) (T := TX3) (N := 9) hx hb hts hinX3 hown hK hP 0 rfl rfl 1 (by decide) (hts (.fieldLink RX3 27 "RenameRows" "ring" "LRenameRows$Ring;") (by decide +kernel)) (fun _ h9 => h9) rfl dX3_isAble_35 ?_
      refine lv_iload_n hx hb dX3_isAble_38 rfl (lv_at hl 1 rfl) ?_
      refine W.callR (W.runV (As := [.int (nI j)]) (rest := [.ref (a 1)]) ⟨hx, hb, hml, hown, hts⟩ (c_X2_readBAt l dC dI cs a n f (nI j) hB) (cwV 1 hts gX3_isAble_X2_readBAt rfl rfl rfl (by decide +kernel) ⟨Nat.le_of_ble_eq_true rfl, Nat.le_of_ble_eq_true rfl⟩) (rd_preV (q := (RX2, TX2, 10)) hP hK 2 rfl rfl) rfl rfl hl.1 rfl (lv_room (Nat.le_of_ble_eq_true rfl)) dX3_isAble_39 ⟨Nat.zero_le _, Nat.zero_le _⟩) ?_
      refine W.eq (g2 := F0 m 42 ls (.int (x_at 11 n f (nI j)) :: [.ref (a 1)])) rfl ?_
      refine tp_eq (x_at_nI (by omega) (by omega)) ?_
      refine W.eq (g2 := F0 m 42 ls (.int (f 11 j) :: [.ref (a 1)])) rfl ?_
      refine W.callR (W.runV (As := [.int (f 11 j)]) (rest := []) ⟨hx, hb, hml, hown, hts⟩ (c_X1_isReadyOrNone l dC dI cs a n f (f 11 j) hB) (cwV 1 hts gX3_isAble_X1_isReadyOrNone rfl rfl rfl (by decide +kernel) ⟨Nat.le_of_ble_eq_true rfl, Nat.le_of_ble_eq_true rfl⟩) (rd_preV (q := (RX1, TX1, 5)) hP hK 1 rfl rfl) rfl rfl hl.1 rfl (lv_room (Nat.le_of_ble_eq_true rfl)) dX3_isAble_42 ⟨Nat.zero_le _, Nat.zero_le _⟩) ?_
      refine W.eq (g2 := F0 m 45 ls (.int (b2i (x_rdy n f (f 11 j))) :: [])) rfl ?_
      refine lv_if_eq (tgt := 52) hx hb dX3_isAble_45 (by decide) (fun c_3 => ?_) (fun c_3 => ?_)
      · have c_3 : x_rdy n f (f 11 j) = false := b2i_f c_3
        refine lv_iconst (v := nI 0) hx hb dX3_isAble_52 (by decide) ?_
        refine tp_eq (b_0 (by first | (simp [x_able, c_1, c_2, c_3]; done) | (simp [nI_0, x_able, c_1, c_2, c_3]; done) | (simp [x_able, c_1, c_2, c_3]; omega)) : _ = b2i (x_able n f j)) ?_
        exact rd_zret hx hb hr hlocks dX3_isAble_53
      · have c_3 : x_rdy n f (f 11 j) = true := b2i_t c_3
        refine lv_iconst (v := nI 1) hx hb dX3_isAble_48 (by decide) ?_
        refine lv_goto (tgt := 53) hx hb dX3_isAble_49 (by decide) ?_
        refine tp_eq (b_1 (by first | (simp [x_able, c_1, c_2, c_3]; done) | (simp [nI_0, x_able, c_1, c_2, c_3]; done) | (simp [x_able, c_1, c_2, c_3]; omega)) : _ = b2i (x_able n f j)) ?_
        exact rd_zret hx hb hr hlocks dX3_isAble_53

set_option maxHeartbeats 4000000 in
set_option maxRecDepth 100000 in
theorem c_X3_oldestAbleFor (l : Launch) (dC : Nat → ClassId) (dI : Nat → Nat → Nat) (cs : ClassId × ClassId) (a n : Nat → Nat) (f : Nat → Nat → Int32) (x : Int32) (hB : x_bd n)  : Met l yX3_oldestAbleFor wsX3_oldestAbleFor ({ frames := 4, cells := 0, slots := 0, locals := 85 }) (rdPc (dC, dI) vwCl (wX cs a n f) (tyl cs) [.ref (a 0), .int x]) (QcRead (x_find n f x (n 9) 0)) 0 0 (fun _ => False) := by
  refine rd_of (cc := cX3_oldestAbleFor) (maxL := 4) (ret := (some .int)) (own := RX3) (by decide) rfl rfl (Nat.le_of_ble_eq_true rfl) ?_
  intro p e s m below meth c hx hb hr hml hts hown hlocks hP hK ls hl
  have hl : lv_has ls 4 [(0, .ref (a 0)), (1, .int x)] := hl
  have hinX3 : ∀ w ∈ wsX30, w ∈ wsX3_oldestAbleFor := by decide +kernel
  obtain ⟨B1, B2, B3, B4, B5, B6, B7, B8, B9, B10, B11, B12, B13, B14, B15⟩ := id hB
  refine lv_iconst (v := nI 0) hx hb dX3_oldestAbleFor_0 (by decide) ?_
  refine lv_istore_n (lv' := [(2, .int (nI 0)), (0, .ref (a 0)), (1, .int x)]) hx hb dX3_oldestAbleFor_1 rfl hl (by decide) rfl (fun ls hl => ?_)
  have key : ∀ (k t : Nat), t + k = n 9 → x_find n f x (n 9) 0 = x_find n f x k t → ∀ ls : Array Slot, lv_has ls 4 [(2, .int (nI t)), (0, .ref (a 0)), (1, .int x)] → W p l e ({ frames := 4, cells := 0, slots := 0, locals := 85 } : Room) s m ([.ref (a 0), .int x] : List Value).toArray below meth c s.heap [] 0 0 (MQ below (QcRead (x_find n f x (n 9) 0)) ([.ref (a 0), .int x] : List Value).toArray s 0 0 (fun _ => False)) (F0 m 2 ls []) := by
    intro k
    induction k with
    | zero =>
      intro t ht hs ls hl
      refine lv_iload_n hx hb dX3_oldestAbleFor_2 rfl (lv_at hl 0 rfl) ?_
      refine lv_aload_n hx hb dX3_oldestAbleFor_3 rfl (lv_at hl 1 rfl) ?_
      refine va_get (D := (dC, dI)) (ci := 4) (v := .ref (a 2)) (C := RX3) (T := TX3) (N := 9) hx hb hts hinX3 hown hK hP 0 rfl rfl 1 (by decide) (hts (.fieldLink RX3 27 "RenameRows" "ring" "LRenameRows$Ring;") (by decide +kernel)) (fun _ h9 => h9) rfl dX3_oldestAbleFor_4 ?_
      refine W.callR (W.runV (As := []) (rest := [.int (nI t)]) ⟨hx, hb, hml, hown, hts⟩ (c_X2_rowCount l dC dI cs a n f hB) (cwV 0 hts gX3_oldestAbleFor_X2_rowCount rfl rfl rfl (by decide +kernel) ⟨Nat.le_of_ble_eq_true rfl, Nat.le_of_ble_eq_true rfl⟩) (rd_preV (q := (RX2, TX2, 10)) hP hK 2 rfl rfl) rfl rfl hl.1 rfl (lv_room (Nat.le_of_ble_eq_true rfl)) dX3_oldestAbleFor_7 ⟨Nat.zero_le _, Nat.zero_le _⟩) ?_
      refine W.eq (g2 := F0 m 10 ls (.int (nI (n 9)) :: [.int (nI t)])) rfl ?_
      refine lv_icmp_ge (tgt := 50) hx hb dX3_oldestAbleFor_10 (by decide) (fun c_1 => ?_) (fun c_1 => absurd (nI_le (by omega) (by omega)) c_1)
      have c_1 : (n 9) ≤ t := (nI_leI (by omega) (by omega)).mp c_1
      refine lv_iconst (v := (-1)) hx hb dX3_oldestAbleFor_50 (by decide) ?_
      refine tp_eq (show _ = x_find n f x (n 9) 0 by rw [hs]; simp [x_find, c_1]) ?_
      exact rd_iret hx hb hr hlocks dX3_oldestAbleFor_51
    | succ k ih =>
      intro t ht hs ls hl
      refine lv_iload_n hx hb dX3_oldestAbleFor_2 rfl (lv_at hl 0 rfl) ?_
      refine lv_aload_n hx hb dX3_oldestAbleFor_3 rfl (lv_at hl 1 rfl) ?_
      refine va_get (D := (dC, dI)) (ci := 4) (v := .ref (a 2)) (C := RX3) (T := TX3) (N := 9) hx hb hts hinX3 hown hK hP 0 rfl rfl 1 (by decide) (hts (.fieldLink RX3 27 "RenameRows" "ring" "LRenameRows$Ring;") (by decide +kernel)) (fun _ h9 => h9) rfl dX3_oldestAbleFor_4 ?_
      refine W.callR (W.runV (As := []) (rest := [.int (nI t)]) ⟨hx, hb, hml, hown, hts⟩ (c_X2_rowCount l dC dI cs a n f hB) (cwV 0 hts gX3_oldestAbleFor_X2_rowCount rfl rfl rfl (by decide +kernel) ⟨Nat.le_of_ble_eq_true rfl, Nat.le_of_ble_eq_true rfl⟩) (rd_preV (q := (RX2, TX2, 10)) hP hK 2 rfl rfl) rfl rfl hl.1 rfl (lv_room (Nat.le_of_ble_eq_true rfl)) dX3_oldestAbleFor_7 ⟨Nat.zero_le _, Nat.zero_le _⟩) ?_
      refine W.eq (g2 := F0 m 10 ls (.int (nI (n 9)) :: [.int (nI t)])) rfl ?_
      refine lv_icmp_ge (tgt := 50) hx hb dX3_oldestAbleFor_10 (by decide) (fun c_2 => absurd ((nI_leI (by omega) (by omega)).mp c_2) (by omega)) (fun c_2 => ?_)
      have c_2 : ¬ (n 9) ≤ t := fun q => c_2 ((nI_leI (by omega) (by omega)).mpr q)
      refine lv_aload_n hx hb dX3_oldestAbleFor_13 rfl (lv_at hl 1 rfl) ?_
      refine va_get (D := (dC, dI)) (ci := 4) (v := .ref (a 2)) (C := RX3) (T := TX3) (N := 9) hx hb hts hinX3 hown hK hP 0 rfl rfl 1 (by decide) (hts (.fieldLink RX3 27 "RenameRows" "ring" "LRenameRows$Ring;") (by decide +kernel)) (fun _ h9 => h9) rfl dX3_oldestAbleFor_14 ?_
      refine lv_iload_n hx hb dX3_oldestAbleFor_17 rfl (lv_at hl 0 rfl) ?_
      refine W.callR (W.runV (As := [.int (nI t)]) (rest := []) ⟨hx, hb, hml, hown, hts⟩ (c_X2_placeOfAge l dC dI cs a n f t hB (by omega)) (cwV 1 hts gX3_oldestAbleFor_X2_placeOfAge rfl rfl rfl (by decide +kernel) ⟨Nat.le_of_ble_eq_true rfl, Nat.le_of_ble_eq_true rfl⟩) (rd_preV (q := (RX2, TX2, 10)) hP hK 2 rfl rfl) rfl rfl hl.1 rfl (lv_room (Nat.le_of_ble_eq_true rfl)) dX3_oldestAbleFor_18 ⟨Nat.zero_le _, Nat.zero_le _⟩) ?_
      refine W.eq (g2 := F0 m 21 ls (.int (nI (x_pos n t)) :: [])) rfl ?_
      have k_3 := x_pos_lt (n := n) (i := t) (by omega) (by omega)
      refine lv_istore_n (lv' := [(3, .int (nI (x_pos n t))), (2, .int (nI t)), (0, .ref (a 0)), (1, .int x)]) hx hb dX3_oldestAbleFor_21 rfl hl (by decide) rfl (fun ls hl => ?_)
      refine lv_aload_n hx hb dX3_oldestAbleFor_22 rfl (lv_at hl 2 rfl) ?_
      refine va_get (D := (dC, dI)) (ci := 4) (v := .ref (a 2)) (C := RX3) (T := TX3) (N := 9) hx hb hts hinX3 hown hK hP 0 rfl rfl 1 (by decide) (hts (.fieldLink RX3 27 "RenameRows" "ring" "LRenameRows$Ring;") (by decide +kernel)) (fun _ h9 => h9) rfl dX3_oldestAbleFor_23 ?_
      refine lv_iload_n hx hb dX3_oldestAbleFor_26 rfl (lv_at hl 0 rfl) ?_
      refine W.callR (W.runV (As := [.int (nI (x_pos n t))]) (rest := []) ⟨hx, hb, hml, hown, hts⟩ (c_X2_portAt l dC dI cs a n f (nI (x_pos n t)) hB) (cwV 1 hts gX3_oldestAbleFor_X2_portAt rfl rfl rfl (by decide +kernel) ⟨Nat.le_of_ble_eq_true rfl, Nat.le_of_ble_eq_true rfl⟩) (rd_preV (q := (RX2, TX2, 10)) hP hK 2 rfl rfl) rfl rfl hl.1 rfl (lv_room (Nat.le_of_ble_eq_true rfl)) dX3_oldestAbleFor_27 ⟨Nat.zero_le _, Nat.zero_le _⟩) ?_
      refine W.eq (g2 := F0 m 30 ls (.int (x_at 15 n f (nI (x_pos n t))) :: [])) rfl ?_
      refine tp_eq (x_at_nI (by omega) (by omega)) ?_
      refine W.eq (g2 := F0 m 30 ls (.int (f 15 (x_pos n t)) :: [])) rfl ?_
      refine lv_iload_n hx hb dX3_oldestAbleFor_30 rfl (lv_at hl 3 rfl) ?_
      refine lv_icmp_ne (tgt := 44) hx hb dX3_oldestAbleFor_31 (by decide) (fun c_4 => ?_) (fun c_4 => ?_)
      · refine lv_iinc (v := nI (t + 1)) (lv' := [(2, .int (nI (t + 1))), (3, .int (nI (x_pos n t))), (0, .ref (a 0)), (1, .int x)]) hx hb dX3_oldestAbleFor_44 hl (k := 1) rfl (nI_succ t).symm (by decide) rfl (fun ls hl => ?_)
        refine lv_goto (tgt := 2) hx hb dX3_oldestAbleFor_47 (by decide) ?_
        exact ih (t + 1) (by omega) (by rw [hs]; simp [x_find, c_4]) ls (lv_sub hl [0, 2, 3] rfl)
      · refine lv_aload_n hx hb dX3_oldestAbleFor_34 rfl (lv_at hl 2 rfl) ?_
        refine lv_iload_n hx hb dX3_oldestAbleFor_35 rfl (lv_at hl 0 rfl) ?_
        refine W.callR (W.runV (As := [.int (nI (x_pos n t))]) (rest := []) ⟨hx, hb, hml, hown, hts⟩ (c_X3_isAble l dC dI cs a n f (x_pos n t) hB (by omega)) (cwV 1 hts gX3_oldestAbleFor_X3_isAble rfl rfl rfl (by decide +kernel) ⟨Nat.le_of_ble_eq_true rfl, Nat.le_of_ble_eq_true rfl⟩) (rd_preV (q := (RX3, TX3, 9)) hP hK 0 rfl rfl) rfl rfl hl.1 rfl (lv_room (Nat.le_of_ble_eq_true rfl)) dX3_oldestAbleFor_36 ⟨Nat.zero_le _, Nat.zero_le _⟩) ?_
        refine W.eq (g2 := F0 m 39 ls (.int (b2i (x_able n f (x_pos n t))) :: [])) rfl ?_
        refine lv_if_eq (tgt := 44) hx hb dX3_oldestAbleFor_39 (by decide) (fun c_5 => ?_) (fun c_5 => ?_)
        · have c_5 : x_able n f (x_pos n t) = false := b2i_f c_5
          refine lv_iinc (v := nI (t + 1)) (lv' := [(2, .int (nI (t + 1))), (3, .int (nI (x_pos n t))), (0, .ref (a 0)), (1, .int x)]) hx hb dX3_oldestAbleFor_44 hl (k := 1) rfl (nI_succ t).symm (by decide) rfl (fun ls hl => ?_)
          refine lv_goto (tgt := 2) hx hb dX3_oldestAbleFor_47 (by decide) ?_
          exact ih (t + 1) (by omega) (by rw [hs]; simp [x_find, c_5]) ls (lv_sub hl [0, 2, 3] rfl)
        · have c_5 : x_able n f (x_pos n t) = true := b2i_t c_5
          refine lv_iload_n hx hb dX3_oldestAbleFor_42 rfl (lv_at hl 0 rfl) ?_
          refine tp_eq (show _ = x_find n f x (n 9) 0 by rw [hs]; simp [x_find, c_2, c_4, c_5]) ?_
          exact rd_iret hx hb hr hlocks dX3_oldestAbleFor_43
  exact key (n 9) 0 (by omega) rfl ls (lv_sub hl [0, 1, 2] rfl)

set_option maxHeartbeats 4000000 in
set_option maxRecDepth 100000 in
theorem c_X3_countAble (l : Launch) (dC : Nat → ClassId) (dI : Nat → Nat → Nat) (cs : ClassId × ClassId) (a n : Nat → Nat) (f : Nat → Nat → Int32) (hB : x_bd n)  : Met l yX3_countAble wsX3_countAble ({ frames := 4, cells := 0, slots := 0, locals := 85 }) (rdPc (dC, dI) vwCl (wX cs a n f) (tyl cs) [.ref (a 0)]) (QcRead (nI (x_cnt n f (n 9)))) 0 0 (fun _ => False) := by
  refine rd_of (cc := cX3_countAble) (maxL := 3) (ret := (some .int)) (own := RX3) (by decide) rfl rfl (Nat.le_of_ble_eq_true rfl) ?_
  intro p e s m below meth c hx hb hr hml hts hown hlocks hP hK ls hl
  have hl : lv_has ls 3 [(0, .ref (a 0))] := hl
  have hinX3 : ∀ w ∈ wsX30, w ∈ wsX3_countAble := by decide +kernel
  obtain ⟨B1, B2, B3, B4, B5, B6, B7, B8, B9, B10, B11, B12, B13, B14, B15⟩ := id hB
  refine lv_iconst (v := nI 0) hx hb dX3_countAble_0 (by decide) ?_
  refine lv_istore_n (lv' := [(1, .int (nI 0)), (0, .ref (a 0))]) hx hb dX3_countAble_1 rfl hl (by decide) rfl (fun ls hl => ?_)
  refine lv_iconst (v := nI 0) hx hb dX3_countAble_2 (by decide) ?_
  refine lv_istore_n (lv' := [(2, .int (nI 0)), (1, .int (nI 0)), (0, .ref (a 0))]) hx hb dX3_countAble_3 rfl hl (by decide) rfl (fun ls hl => ?_)
  have key : ∀ (k t v : Nat), t + k = n 9 → v = x_cnt n f t → ∀ ls : Array Slot, lv_has ls 3 [(2, .int (nI t)), (1, .int (nI v)), (0, .ref (a 0))] → W p l e ({ frames := 4, cells := 0, slots := 0, locals := 85 } : Room) s m ([.ref (a 0)] : List Value).toArray below meth c s.heap [] 0 0 (MQ below (QcRead (nI (x_cnt n f (n 9)))) ([.ref (a 0)] : List Value).toArray s 0 0 (fun _ => False)) (F0 m 4 ls []) := by
    intro k
    induction k with
    | zero =>
      intro t v ht hs ls hl
      refine lv_iload_n hx hb dX3_countAble_4 rfl (lv_at hl 0 rfl) ?_
      refine lv_aload_n hx hb dX3_countAble_5 rfl (lv_at hl 2 rfl) ?_
      refine va_get (D := (dC, dI)) (ci := 4) (v := .ref (a 2)) (C := RX3) (T := TX3) (N := 9) hx hb hts hinX3 hown hK hP 0 rfl rfl 1 (by decide) (hts (.fieldLink RX3 27 "RenameRows" "ring" "LRenameRows$Ring;") (by decide +kernel)) (fun _ h9 => h9) rfl dX3_countAble_6 ?_
      refine W.callR (W.runV (As := []) (rest := [.int (nI t)]) ⟨hx, hb, hml, hown, hts⟩ (c_X2_rowCount l dC dI cs a n f hB) (cwV 0 hts gX3_countAble_X2_rowCount rfl rfl rfl (by decide +kernel) ⟨Nat.le_of_ble_eq_true rfl, Nat.le_of_ble_eq_true rfl⟩) (rd_preV (q := (RX2, TX2, 10)) hP hK 2 rfl rfl) rfl rfl hl.1 rfl (lv_room (Nat.le_of_ble_eq_true rfl)) dX3_countAble_9 ⟨Nat.zero_le _, Nat.zero_le _⟩) ?_
      refine W.eq (g2 := F0 m 12 ls (.int (nI (n 9)) :: [.int (nI t)])) rfl ?_
      refine lv_icmp_ge (tgt := 39) hx hb dX3_countAble_12 (by decide) (fun c_1 => ?_) (fun c_1 => absurd (nI_le (by omega) (by omega)) c_1)
      have c_1 : (n 9) ≤ t := (nI_leI (by omega) (by omega)).mp c_1
      refine lv_iload_n hx hb dX3_countAble_39 rfl (lv_at hl 1 rfl) ?_
      refine tp_eq (show _ = nI (x_cnt n f (n 9)) by rw [hs, show t = n 9 from by omega]) ?_
      exact rd_iret hx hb hr hlocks dX3_countAble_40
    | succ k ih =>
      intro t v ht hs ls hl
      refine lv_iload_n hx hb dX3_countAble_4 rfl (lv_at hl 0 rfl) ?_
      refine lv_aload_n hx hb dX3_countAble_5 rfl (lv_at hl 2 rfl) ?_
      refine va_get (D := (dC, dI)) (ci := 4) (v := .ref (a 2)) (C := RX3) (T := TX3) (N := 9) hx hb hts hinX3 hown hK hP 0 rfl rfl 1 (by decide) (hts (.fieldLink RX3 27 "RenameRows" "ring" "LRenameRows$Ring;") (by decide +kernel)) (fun _ h9 => h9) rfl dX3_countAble_6 ?_
      refine W.callR (W.runV (As := []) (rest := [.int (nI t)]) ⟨hx, hb, hml, hown, hts⟩ (c_X2_rowCount l dC dI cs a n f hB) (cwV 0 hts gX3_countAble_X2_rowCount rfl rfl rfl (by decide +kernel) ⟨Nat.le_of_ble_eq_true rfl, Nat.le_of_ble_eq_true rfl⟩) (rd_preV (q := (RX2, TX2, 10)) hP hK 2 rfl rfl) rfl rfl hl.1 rfl (lv_room (Nat.le_of_ble_eq_true rfl)) dX3_countAble_9 ⟨Nat.zero_le _, Nat.zero_le _⟩) ?_
      refine W.eq (g2 := F0 m 12 ls (.int (nI (n 9)) :: [.int (nI t)])) rfl ?_
      refine lv_icmp_ge (tgt := 39) hx hb dX3_countAble_12 (by decide) (fun c_2 => absurd ((nI_leI (by omega) (by omega)).mp c_2) (by omega)) (fun c_2 => ?_)
      have c_2 : ¬ (n 9) ≤ t := fun q => c_2 ((nI_leI (by omega) (by omega)).mpr q)
      refine lv_aload_n hx hb dX3_countAble_15 rfl (lv_at hl 2 rfl) ?_
      refine lv_aload_n hx hb dX3_countAble_16 rfl (lv_at hl 2 rfl) ?_
      refine va_get (D := (dC, dI)) (ci := 4) (v := .ref (a 2)) (C := RX3) (T := TX3) (N := 9) hx hb hts hinX3 hown hK hP 0 rfl rfl 1 (by decide) (hts (.fieldLink RX3 27 "RenameRows" "ring" "LRenameRows$Ring;") (by decide +kernel)) (fun _ h9 => h9) rfl dX3_countAble_17 ?_
      refine lv_iload_n hx hb dX3_countAble_20 rfl (lv_at hl 0 rfl) ?_
      refine W.callR (W.runV (As := [.int (nI t)]) (rest := [.ref (a 0)]) ⟨hx, hb, hml, hown, hts⟩ (c_X2_placeOfAge l dC dI cs a n f t hB (by omega)) (cwV 1 hts gX3_countAble_X2_placeOfAge rfl rfl rfl (by decide +kernel) ⟨Nat.le_of_ble_eq_true rfl, Nat.le_of_ble_eq_true rfl⟩) (rd_preV (q := (RX2, TX2, 10)) hP hK 2 rfl rfl) rfl rfl hl.1 rfl (lv_room (Nat.le_of_ble_eq_true rfl)) dX3_countAble_21 ⟨Nat.zero_le _, Nat.zero_le _⟩) ?_
      refine W.eq (g2 := F0 m 24 ls (.int (nI (x_pos n t)) :: [.ref (a 0)])) rfl ?_
      have k_3 := x_pos_lt (n := n) (i := t) (by omega) (by omega)
      refine W.callR (W.runV (As := [.int (nI (x_pos n t))]) (rest := []) ⟨hx, hb, hml, hown, hts⟩ (c_X3_isAble l dC dI cs a n f (x_pos n t) hB (by omega)) (cwV 1 hts gX3_countAble_X3_isAble rfl rfl rfl (by decide +kernel) ⟨Nat.le_of_ble_eq_true rfl, Nat.le_of_ble_eq_true rfl⟩) (rd_preV (q := (RX3, TX3, 9)) hP hK 0 rfl rfl) rfl rfl hl.1 rfl (lv_room (Nat.le_of_ble_eq_true rfl)) dX3_countAble_24 ⟨Nat.zero_le _, Nat.zero_le _⟩) ?_
      refine W.eq (g2 := F0 m 27 ls (.int (b2i (x_able n f (x_pos n t))) :: [])) rfl ?_
      refine lv_if_eq (tgt := 33) hx hb dX3_countAble_27 (by decide) (fun c_4 => ?_) (fun c_4 => ?_)
      · have c_4 : x_able n f (x_pos n t) = false := b2i_f c_4
        refine lv_iinc (v := nI (t + 1)) (lv' := [(2, .int (nI (t + 1))), (1, .int (nI v)), (0, .ref (a 0))]) hx hb dX3_countAble_33 hl (k := 0) rfl (nI_succ t).symm (by decide) rfl (fun ls hl => ?_)
        refine lv_goto (tgt := 4) hx hb dX3_countAble_36 (by decide) ?_
        exact ih (t + 1) (v) (by omega) (by rw [hs]; simp [x_cnt, c_4]) ls (lv_sub hl [0, 1, 2] rfl)
      · have c_4 : x_able n f (x_pos n t) = true := b2i_t c_4
        refine lv_iinc (v := nI (v + 1)) (lv' := [(1, .int (nI (v + 1))), (2, .int (nI t)), (0, .ref (a 0))]) hx hb dX3_countAble_30 hl (k := 1) rfl (nI_succ v).symm (by decide) rfl (fun ls hl => ?_)
        refine lv_iinc (v := nI (t + 1)) (lv' := [(2, .int (nI (t + 1))), (1, .int (nI (v + 1))), (0, .ref (a 0))]) hx hb dX3_countAble_33 hl (k := 1) rfl (nI_succ t).symm (by decide) rfl (fun ls hl => ?_)
        refine lv_goto (tgt := 4) hx hb dX3_countAble_36 (by decide) ?_
        exact ih (t + 1) (v + 1) (by omega) (by rw [hs]; simp [x_cnt, c_4]) ls (lv_sub hl [0, 1, 2] rfl)
  exact key (n 9) 0 0 (by omega) rfl ls (lv_sub hl [0, 1, 2] rfl)

set_option maxHeartbeats 4000000 in
set_option maxRecDepth 100000 in
theorem c_X3_rowsBeforeOldestMark (l : Launch) (dC : Nat → ClassId) (dI : Nat → Nat → Nat) (cs : ClassId × ClassId) (a n : Nat → Nat) (f : Nat → Nat → Int32) (hB : x_bd n)  : Met l yX3_rowsBeforeOldestMark wsX3_rowsBeforeOldestMark ({ frames := 2, cells := 0, slots := 0, locals := 42 }) (rdPc (dC, dI) vwCl (wX cs a n f) (tyl cs) [.ref (a 0)]) (QcRead (x_rb n f)) 0 0 (fun _ => False) := by
  refine rd_of (cc := cX3_rowsBeforeOldestMark) (maxL := 2) (ret := (some .int)) (own := RX3) (by decide) rfl rfl (Nat.le_of_ble_eq_true rfl) ?_
  intro p e s m below meth c hx hb hr hml hts hown hlocks hP hK ls hl
  have hl : lv_has ls 2 [(0, .ref (a 0))] := hl
  have hinX3 : ∀ w ∈ wsX30, w ∈ wsX3_rowsBeforeOldestMark := by decide +kernel
  obtain ⟨B1, B2, B3, B4, B5, B6, B7, B8, B9, B10, B11, B12, B13, B14, B15⟩ := id hB
  refine lv_aload_n hx hb dX3_rowsBeforeOldestMark_0 rfl (lv_at hl 0 rfl) ?_
  refine va_get (D := (dC, dI)) (ci := 4) (v := .ref (a 3)) (C := RX3) (T := TX3) (N := 9) hx hb hts hinX3 hown hK hP 0 rfl rfl 2 (by decide) (hts (.fieldLink RX3 34 "RenameRows" "marks" "LRenameRows$Marks;") (by decide +kernel)) (fun _ h9 => h9) rfl dX3_rowsBeforeOldestMark_1 ?_
  refine W.callR (W.runV (As := []) (rest := []) ⟨hx, hb, hml, hown, hts⟩ (c_X0_oldest l dC dI cs a n f hB) (cwV 0 hts gX3_rowsBeforeOldestMark_X0_oldest rfl rfl rfl (by decide +kernel) ⟨Nat.le_of_ble_eq_true rfl, Nat.le_of_ble_eq_true rfl⟩) (rd_preV (q := (RX0, TX0, 3)) hP hK 3 rfl rfl) rfl rfl hl.1 rfl (lv_room (Nat.le_of_ble_eq_true rfl)) dX3_rowsBeforeOldestMark_4 ⟨Nat.zero_le _, Nat.zero_le _⟩) ?_
  refine W.eq (g2 := F0 m 7 ls (.int (x_om n f) :: [])) rfl ?_
  refine lv_istore_n (lv' := [(1, .int (x_om n f)), (0, .ref (a 0))]) hx hb dX3_rowsBeforeOldestMark_7 rfl hl (by decide) rfl (fun ls hl => ?_)
  refine lv_iload_n hx hb dX3_rowsBeforeOldestMark_8 rfl (lv_at hl 0 rfl) ?_
  refine lv_iconst (v := (-1)) hx hb dX3_rowsBeforeOldestMark_9 (by decide) ?_
  refine lv_icmp_ne (tgt := 23) hx hb dX3_rowsBeforeOldestMark_10 (by decide) (fun c_1 => ?_) (fun c_1 => ?_)
  · refine lv_aload_n hx hb dX3_rowsBeforeOldestMark_23 rfl (lv_at hl 1 rfl) ?_
    refine va_get (D := (dC, dI)) (ci := 4) (v := .ref (a 3)) (C := RX3) (T := TX3) (N := 9) hx hb hts hinX3 hown hK hP 0 rfl rfl 2 (by decide) (hts (.fieldLink RX3 34 "RenameRows" "marks" "LRenameRows$Marks;") (by decide +kernel)) (fun _ h9 => h9) rfl dX3_rowsBeforeOldestMark_24 ?_
    refine lv_iload_n hx hb dX3_rowsBeforeOldestMark_27 rfl (lv_at hl 0 rfl) ?_
    refine W.callR (W.runV (As := [.int (x_om n f)]) (rest := []) ⟨hx, hb, hml, hown, hts⟩ (c_X0_rowsBefore l dC dI cs a n f (x_om n f) hB) (cwV 1 hts gX3_rowsBeforeOldestMark_X0_rowsBefore rfl rfl rfl (by decide +kernel) ⟨Nat.le_of_ble_eq_true rfl, Nat.le_of_ble_eq_true rfl⟩) (rd_preV (q := (RX0, TX0, 3)) hP hK 3 rfl rfl) rfl rfl hl.1 rfl (lv_room (Nat.le_of_ble_eq_true rfl)) dX3_rowsBeforeOldestMark_28 ⟨Nat.zero_le _, Nat.zero_le _⟩) ?_
    refine W.eq (g2 := F0 m 31 ls (.int (x_bef f (x_om n f)) :: [])) rfl ?_
    refine lv_aload_n hx hb dX3_rowsBeforeOldestMark_31 rfl (lv_at hl 1 rfl) ?_
    refine va_get (D := (dC, dI)) (ci := 4) (v := .ref (a 2)) (C := RX3) (T := TX3) (N := 9) hx hb hts hinX3 hown hK hP 0 rfl rfl 1 (by decide) (hts (.fieldLink RX3 27 "RenameRows" "ring" "LRenameRows$Ring;") (by decide +kernel)) (fun _ h9 => h9) rfl dX3_rowsBeforeOldestMark_32 ?_
    refine W.callR (W.runV (As := []) (rest := [.int (x_bef f (x_om n f))]) ⟨hx, hb, hml, hown, hts⟩ (c_X2_doneCount l dC dI cs a n f hB) (cwV 0 hts gX3_rowsBeforeOldestMark_X2_doneCount rfl rfl rfl (by decide +kernel) ⟨Nat.le_of_ble_eq_true rfl, Nat.le_of_ble_eq_true rfl⟩) (rd_preV (q := (RX2, TX2, 10)) hP hK 2 rfl rfl) rfl rfl hl.1 rfl (lv_room (Nat.le_of_ble_eq_true rfl)) dX3_rowsBeforeOldestMark_35 ⟨Nat.zero_le _, Nat.zero_le _⟩) ?_
    refine W.eq (g2 := F0 m 38 ls (.int (nI (n 10)) :: [.int (x_bef f (x_om n f))])) rfl ?_
    refine lv_isub hx hb dX3_rowsBeforeOldestMark_38 ?_
    refine tp_eq (show _ = x_rb n f by first | (simp [x_rb, c_1]; done) | (simp [nI_0, x_rb, c_1]; done) | (simp [x_rb, c_1]; omega)) ?_
    exact rd_iret hx hb hr hlocks dX3_rowsBeforeOldestMark_39
  · refine lv_aload_n hx hb dX3_rowsBeforeOldestMark_13 rfl (lv_at hl 1 rfl) ?_
    refine va_get (D := (dC, dI)) (ci := 4) (v := .ref (a 2)) (C := RX3) (T := TX3) (N := 9) hx hb hts hinX3 hown hK hP 0 rfl rfl 1 (by decide) (hts (.fieldLink RX3 27 "RenameRows" "ring" "LRenameRows$Ring;") (by decide +kernel)) (fun _ h9 => h9) rfl dX3_rowsBeforeOldestMark_14 ?_
    refine W.callR (W.runV (As := []) (rest := []) ⟨hx, hb, hml, hown, hts⟩ (c_X2_rowCount l dC dI cs a n f hB) (cwV 0 hts gX3_rowsBeforeOldestMark_X2_rowCount rfl rfl rfl (by decide +kernel) ⟨Nat.le_of_ble_eq_true rfl, Nat.le_of_ble_eq_true rfl⟩) (rd_preV (q := (RX2, TX2, 10)) hP hK 2 rfl rfl) rfl rfl hl.1 rfl (lv_room (Nat.le_of_ble_eq_true rfl)) dX3_rowsBeforeOldestMark_17 ⟨Nat.zero_le _, Nat.zero_le _⟩) ?_
    refine W.eq (g2 := F0 m 20 ls (.int (nI (n 9)) :: [])) rfl ?_
    refine lv_goto (tgt := 39) hx hb dX3_rowsBeforeOldestMark_20 (by decide) ?_
    refine tp_eq (show _ = x_rb n f by first | (simp [x_rb, c_1]; done) | (simp [nI_0, x_rb, c_1]; done) | (simp [x_rb, c_1]; omega)) ?_
    exact rd_iret hx hb hr hlocks dX3_rowsBeforeOldestMark_39
end
section
set_option maxHeartbeats 4000000 in
set_option maxRecDepth 100000 in
theorem c_X2_append (l : Launch) (dC : Nat → ClassId) (dI : Nat → Nat → Nat) (cs : ClassId × ClassId) (a n : Nat → Nat) (f : Nat → Nat → Int32) (sz : Nat) (ra : Int32) (rb : Int32) (rg : Int32) (rk : Int32) (rt : Int32) (rs : Int32) (hB : x_bd n) (h1 : n 9 < n 2)  : Met l yX2_append wsX2_append ({ frames := 1, cells := 0, slots := 0, locals := 22 }) (wrPc (dC, dI) vwCl (wX cs a n f) (tyl cs) sz [.ref (a 2), .int ra, .int rb, .int rg, .int rk, .int rt, .int rs]) (wrQ (dC, dI) vwCl (wX cs a (un n 9 ((n 9) + 1)) (x_app n f ra rb rg rk rt rs)) (some (.int (nI (x_pos n (n 9))))) (va_A (wX cs a n f) sz)) 0 0 (va_A (wX cs a n f) sz) := by
  refine wr_of (cc := cX2_append) (maxL := 8) (ret := (some .int)) (own := RX2) (by decide) rfl rfl (Nat.le_of_ble_eq_true rfl) ?_
  intro p e s m below meth c A hsz hAe hx hb hr hml hts hown hlocks hP hK hD hA hS ls hl
  have hl : lv_has ls 8 [(0, .ref (a 2)), (1, .int ra), (2, .int rb), (3, .int rg), (4, .int rk), (5, .int rt), (6, .int rs)] := hl
  have hinX2 : ∀ w ∈ wsX20, w ∈ wsX2_append := by decide +kernel
  obtain ⟨B1, B2, B3, B4, B5, B6, B7, B8, B9, B10, B11, B12, B13, B14, B15⟩ := id hB
  refine lv_aload_n hx hb dX2_append_0 rfl (lv_at hl 0 rfl) ?_
  refine W.callR (W.runV (As := []) (rest := []) ⟨hx, hb, hml, hown, hts⟩ (c_X2_isFull l dC dI cs a n f hB) (cwV 0 hts gX2_append_X2_isFull rfl rfl rfl (by decide +kernel) ⟨Nat.le_of_ble_eq_true rfl, Nat.le_of_ble_eq_true rfl⟩) (rd_preV (q := (RX2, TX2, 10)) hP hK 2 rfl rfl) rfl rfl hl.1 rfl (lv_room (Nat.le_of_ble_eq_true rfl)) dX2_append_1 ⟨Nat.zero_le _, Nat.zero_le _⟩) ?_
  refine W.eq (g2 := F0 m 4 ls (.int (b2i (decide (n 2 ≤ n 9))) :: [])) rfl ?_
  refine lv_if_eq (tgt := 9) hx hb dX2_append_4 (by decide) (fun c_1 => ?_) (fun c_1 => absurd (b2i_t c_1) (by simp; omega))
  have c_1 : decide (n 2 ≤ n 9) = false := b2i_f c_1
  refine lv_aload_n hx hb dX2_append_9 rfl (lv_at hl 0 rfl) ?_
  refine lv_aload_n hx hb dX2_append_10 rfl (lv_at hl 0 rfl) ?_
  refine va_get (D := (dC, dI)) (ci := 3) (v := .int (nI (n 9))) (C := RX2) (T := TX2) (N := 10) hx hb hts hinX2 hown hK hP 2 rfl rfl 8 (by decide) (hts (.fieldLink RX2 33 "RenameRows$Ring" "rows" "I") (by decide +kernel)) (fun _ h9 => h9) rfl dX2_append_11 ?_
  refine W.callR (W.runV (As := [.int (nI (n 9))]) (rest := []) ⟨hx, hb, hml, hown, hts⟩ (c_X2_placeOfAge l dC dI cs a n f (n 9) hB (by omega)) (cwV 1 hts gX2_append_X2_placeOfAge rfl rfl rfl (by decide +kernel) ⟨Nat.le_of_ble_eq_true rfl, Nat.le_of_ble_eq_true rfl⟩) (rd_preV (q := (RX2, TX2, 10)) hP hK 2 rfl rfl) rfl rfl hl.1 rfl (lv_room (Nat.le_of_ble_eq_true rfl)) dX2_append_14 ⟨Nat.zero_le _, Nat.zero_le _⟩) ?_
  refine W.eq (g2 := F0 m 17 ls (.int (nI (x_pos n (n 9))) :: [])) rfl ?_
  have k_2 := x_pos_lt (n := n) (i := (n 9)) (by omega) (by omega)
  refine lv_istore (lv' := [(7, .int (nI (x_pos n (n 9)))), (0, .ref (a 2)), (1, .int ra), (2, .int rb), (3, .int rg), (4, .int rk), (5, .int rt), (6, .int rs)]) hx hb dX2_append_17 hl (by decide) rfl (fun ls hl => ?_)
  refine lv_aload_n hx hb dX2_append_19 rfl (lv_at hl 1 rfl) ?_
  refine va_get (D := (dC, dI)) (ci := 3) (v := .ref (a 10)) (C := RX2) (T := TX2) (N := 10) hx hb hts hinX2 hown hK hP 2 rfl rfl 0 (by decide) (hts (.fieldLink RX2 9 "RenameRows$Ring" "readA" "[I") (by decide +kernel)) (fun _ h9 => h9) rfl dX2_append_20 ?_
  refine lv_iload hx hb dX2_append_23 (lv_at hl 0 rfl) ?_
  refine lv_iload_n hx hb dX2_append_25 rfl (lv_at hl 2 rfl) ?_
  refine ar_st (D := (dC, dI)) (n := n 2) (f := f 10) hx hb hK hP hD hS 10 0 rfl rfl (by omega) (by omega) dX2_append_26 (fun H locs hP hD hS => ?_)
  have hP : va_P (dC, dI) vwCl (wX cs a n (uf f 10 (upd (f 10) (x_pos n (n 9)) ra))) H := hP
  have hD : va_D A (wX cs a n (uf f 10 (upd (f 10) (x_pos n (n 9)) ra))) := hD
  refine lv_aload_n hx hb dX2_append_27 rfl (lv_at hl 1 rfl) ?_
  refine va_get (D := (dC, dI)) (ci := 3) (v := .ref (a 11)) (C := RX2) (T := TX2) (N := 10) hx hb hts hinX2 hown hK hP 2 rfl rfl 1 (by decide) (hts (.fieldLink RX2 15 "RenameRows$Ring" "readB" "[I") (by decide +kernel)) (fun _ h9 => h9) rfl dX2_append_28 ?_
  refine lv_iload hx hb dX2_append_31 (lv_at hl 0 rfl) ?_
  refine lv_iload_n hx hb dX2_append_33 rfl (lv_at hl 3 rfl) ?_
  refine ar_st (D := (dC, dI)) (n := n 2) (f := f 11) hx hb hK hP hD hS 11 0 rfl rfl (by omega) (by omega) dX2_append_34 (fun H locs hP hD hS => ?_)
  have hP : va_P (dC, dI) vwCl (wX cs a n (uf (uf f 10 (upd (f 10) (x_pos n (n 9)) ra)) 11 (upd (f 11) (x_pos n (n 9)) rb))) H := hP
  have hD : va_D A (wX cs a n (uf (uf f 10 (upd (f 10) (x_pos n (n 9)) ra)) 11 (upd (f 11) (x_pos n (n 9)) rb))) := hD
  refine lv_aload_n hx hb dX2_append_35 rfl (lv_at hl 1 rfl) ?_
  refine va_get (D := (dC, dI)) (ci := 3) (v := .ref (a 12)) (C := RX2) (T := TX2) (N := 10) hx hb hts hinX2 hown hK hP 2 rfl rfl 2 (by decide) (hts (.fieldLink RX2 18 "RenameRows$Ring" "given" "[I") (by decide +kernel)) (fun _ h9 => h9) rfl dX2_append_36 ?_
  refine lv_iload hx hb dX2_append_39 (lv_at hl 0 rfl) ?_
  refine lv_iload_n hx hb dX2_append_41 rfl (lv_at hl 4 rfl) ?_
  refine ar_st (D := (dC, dI)) (n := n 2) (f := f 12) hx hb hK hP hD hS 12 0 rfl rfl (by omega) (by omega) dX2_append_42 (fun H locs hP hD hS => ?_)
  have hP : va_P (dC, dI) vwCl (wX cs a n (uf (uf (uf f 10 (upd (f 10) (x_pos n (n 9)) ra)) 11 (upd (f 11) (x_pos n (n 9)) rb)) 12 (upd (f 12) (x_pos n (n 9)) rg))) H := hP
  have hD : va_D A (wX cs a n (uf (uf (uf f 10 (upd (f 10) (x_pos n (n 9)) ra)) 11 (upd (f 11) (x_pos n (n 9)) rb)) 12 (upd (f 12) (x_pos n (n 9)) rg))) := hD
  refine lv_aload_n hx hb dX2_append_43 rfl (lv_at hl 1 rfl) ?_
  refine va_get (D := (dC, dI)) (ci := 3) (v := .ref (a 13)) (C := RX2) (T := TX2) (N := 10) hx hb hts hinX2 hown hK hP 2 rfl rfl 3 (by decide) (hts (.fieldLink RX2 21 "RenameRows$Ring" "known" "[I") (by decide +kernel)) (fun _ h9 => h9) rfl dX2_append_44 ?_
  refine lv_iload hx hb dX2_append_47 (lv_at hl 0 rfl) ?_
  refine lv_iload hx hb dX2_append_49 (lv_at hl 5 rfl) ?_
  refine ar_st (D := (dC, dI)) (n := n 2) (f := f 13) hx hb hK hP hD hS 13 0 rfl rfl (by omega) (by omega) dX2_append_51 (fun H locs hP hD hS => ?_)
  have hP : va_P (dC, dI) vwCl (wX cs a n (uf (uf (uf (uf f 10 (upd (f 10) (x_pos n (n 9)) ra)) 11 (upd (f 11) (x_pos n (n 9)) rb)) 12 (upd (f 12) (x_pos n (n 9)) rg)) 13 (upd (f 13) (x_pos n (n 9)) rk))) H := hP
  have hD : va_D A (wX cs a n (uf (uf (uf (uf f 10 (upd (f 10) (x_pos n (n 9)) ra)) 11 (upd (f 11) (x_pos n (n 9)) rb)) 12 (upd (f 12) (x_pos n (n 9)) rg)) 13 (upd (f 13) (x_pos n (n 9)) rk))) := hD
  refine lv_aload_n hx hb dX2_append_52 rfl (lv_at hl 1 rfl) ?_
  refine va_get (D := (dC, dI)) (ci := 3) (v := .ref (a 14)) (C := RX2) (T := TX2) (N := 10) hx hb hts hinX2 hown hK hP 2 rfl rfl 4 (by decide) (hts (.fieldLink RX2 24 "RenameRows$Ring" "register" "[I") (by decide +kernel)) (fun _ h9 => h9) rfl dX2_append_53 ?_
  refine lv_iload hx hb dX2_append_56 (lv_at hl 0 rfl) ?_
  refine lv_iload hx hb dX2_append_58 (lv_at hl 6 rfl) ?_
  refine ar_st (D := (dC, dI)) (n := n 2) (f := f 14) hx hb hK hP hD hS 14 0 rfl rfl (by omega) (by omega) dX2_append_60 (fun H locs hP hD hS => ?_)
  have hP : va_P (dC, dI) vwCl (wX cs a n (uf (uf (uf (uf (uf f 10 (upd (f 10) (x_pos n (n 9)) ra)) 11 (upd (f 11) (x_pos n (n 9)) rb)) 12 (upd (f 12) (x_pos n (n 9)) rg)) 13 (upd (f 13) (x_pos n (n 9)) rk)) 14 (upd (f 14) (x_pos n (n 9)) rt))) H := hP
  have hD : va_D A (wX cs a n (uf (uf (uf (uf (uf f 10 (upd (f 10) (x_pos n (n 9)) ra)) 11 (upd (f 11) (x_pos n (n 9)) rb)) 12 (upd (f 12) (x_pos n (n 9)) rg)) 13 (upd (f 13) (x_pos n (n 9)) rk)) 14 (upd (f 14) (x_pos n (n 9)) rt))) := hD
  refine lv_aload_n hx hb dX2_append_61 rfl (lv_at hl 1 rfl) ?_
  refine va_get (D := (dC, dI)) (ci := 3) (v := .ref (a 15)) (C := RX2) (T := TX2) (N := 10) hx hb hts hinX2 hown hK hP 2 rfl rfl 5 (by decide) (hts (.fieldLink RX2 27 "RenameRows$Ring" "port" "[I") (by decide +kernel)) (fun _ h9 => h9) rfl dX2_append_62 ?_
  refine lv_iload hx hb dX2_append_65 (lv_at hl 0 rfl) ?_
  refine lv_iconst (v := nI 0) hx hb dX2_append_67 (by decide) ?_
  refine ar_st (D := (dC, dI)) (n := n 2) (f := f 15) hx hb hK hP hD hS 15 0 rfl rfl (by omega) (by omega) dX2_append_68 (fun H locs hP hD hS => ?_)
  have hP : va_P (dC, dI) vwCl (wX cs a n (uf (uf (uf (uf (uf (uf f 10 (upd (f 10) (x_pos n (n 9)) ra)) 11 (upd (f 11) (x_pos n (n 9)) rb)) 12 (upd (f 12) (x_pos n (n 9)) rg)) 13 (upd (f 13) (x_pos n (n 9)) rk)) 14 (upd (f 14) (x_pos n (n 9)) rt)) 15 (upd (f 15) (x_pos n (n 9)) (nI 0)))) H := hP
  have hD : va_D A (wX cs a n (uf (uf (uf (uf (uf (uf f 10 (upd (f 10) (x_pos n (n 9)) ra)) 11 (upd (f 11) (x_pos n (n 9)) rb)) 12 (upd (f 12) (x_pos n (n 9)) rg)) 13 (upd (f 13) (x_pos n (n 9)) rk)) 14 (upd (f 14) (x_pos n (n 9)) rt)) 15 (upd (f 15) (x_pos n (n 9)) (nI 0)))) := hD
  refine lv_aload_n hx hb dX2_append_69 rfl (lv_at hl 1 rfl) ?_
  refine va_get (D := (dC, dI)) (ci := 3) (v := .ref (a 16)) (C := RX2) (T := TX2) (N := 10) hx hb hts hinX2 hown hK hP 2 rfl rfl 6 (by decide) (hts (.fieldLink RX2 30 "RenameRows$Ring" "state" "[I") (by decide +kernel)) (fun _ h9 => h9) rfl dX2_append_70 ?_
  refine lv_iload hx hb dX2_append_73 (lv_at hl 0 rfl) ?_
  refine lv_iload hx hb dX2_append_75 (lv_at hl 7 rfl) ?_
  refine ar_st (D := (dC, dI)) (n := n 2) (f := f 16) hx hb hK hP hD hS 16 0 rfl rfl (by omega) (by omega) dX2_append_77 (fun H locs hP hD hS => ?_)
  have hP : va_P (dC, dI) vwCl (wX cs a n (uf (uf (uf (uf (uf (uf (uf f 10 (upd (f 10) (x_pos n (n 9)) ra)) 11 (upd (f 11) (x_pos n (n 9)) rb)) 12 (upd (f 12) (x_pos n (n 9)) rg)) 13 (upd (f 13) (x_pos n (n 9)) rk)) 14 (upd (f 14) (x_pos n (n 9)) rt)) 15 (upd (f 15) (x_pos n (n 9)) (nI 0))) 16 (upd (f 16) (x_pos n (n 9)) rs))) H := hP
  have hD : va_D A (wX cs a n (uf (uf (uf (uf (uf (uf (uf f 10 (upd (f 10) (x_pos n (n 9)) ra)) 11 (upd (f 11) (x_pos n (n 9)) rb)) 12 (upd (f 12) (x_pos n (n 9)) rg)) 13 (upd (f 13) (x_pos n (n 9)) rk)) 14 (upd (f 14) (x_pos n (n 9)) rt)) 15 (upd (f 15) (x_pos n (n 9)) (nI 0))) 16 (upd (f 16) (x_pos n (n 9)) rs))) := hD
  refine lv_aload_n hx hb dX2_append_78 rfl (lv_at hl 1 rfl) ?_
  refine lv_dup hx hb dX2_append_79 rfl ?_
  refine va_get (D := (dC, dI)) (ci := 3) (v := .int (nI (n 9))) (C := RX2) (T := TX2) (N := 10) hx hb hts hinX2 hown hK hP 2 rfl rfl 8 (by decide) (hts (.fieldLink RX2 33 "RenameRows$Ring" "rows" "I") (by decide +kernel)) (fun _ h9 => h9) rfl dX2_append_80 ?_
  refine lv_iconst (v := nI 1) hx hb dX2_append_83 (by decide) ?_
  refine lv_iadd hx hb dX2_append_84 ?_
  refine tp_eq (nI_add (n 9) 1) ?_
  refine va_put (D := (dC, dI)) (ci := 3) (v := .int (nI ((n 9) + 1))) (ty := .int) (C := RX2) (T := TX2) (N := 10) hx hb hts hinX2 tyX2 tyX2_ok nmX2 hown hK hP hD hS 2 rfl rfl 8 (by decide) (hts (.fieldLink RX2 33 "RenameRows$Ring" "rows" "I") (by decide +kernel)) (fun _ h9 => h9) rfl (by decide +kernel) rfl rfl (Nat.le_of_ble_eq_true rfl) dX2_append_85 (fun H locs hP hD hS => ?_)
  have hP : va_P (dC, dI) vwCl (wX cs a (un n 9 ((n 9) + 1)) (uf (uf (uf (uf (uf (uf (uf f 10 (upd (f 10) (x_pos n (n 9)) ra)) 11 (upd (f 11) (x_pos n (n 9)) rb)) 12 (upd (f 12) (x_pos n (n 9)) rg)) 13 (upd (f 13) (x_pos n (n 9)) rk)) 14 (upd (f 14) (x_pos n (n 9)) rt)) 15 (upd (f 15) (x_pos n (n 9)) (nI 0))) 16 (upd (f 16) (x_pos n (n 9)) rs))) H := hP
  have hD : va_D A (wX cs a (un n 9 ((n 9) + 1)) (uf (uf (uf (uf (uf (uf (uf f 10 (upd (f 10) (x_pos n (n 9)) ra)) 11 (upd (f 11) (x_pos n (n 9)) rb)) 12 (upd (f 12) (x_pos n (n 9)) rg)) 13 (upd (f 13) (x_pos n (n 9)) rk)) 14 (upd (f 14) (x_pos n (n 9)) rt)) 15 (upd (f 15) (x_pos n (n 9)) (nI 0))) 16 (upd (f 16) (x_pos n (n 9)) rs))) := hD
  refine lv_iload hx hb dX2_append_88 (lv_at hl 0 rfl) ?_
  have hP : va_P (dC, dI) vwCl (wX cs a (un n 9 ((n 9) + 1)) (x_app n f ra rb rg rk rt rs)) H := by
    have e9 : (wX cs a (un n 9 ((n 9) + 1)) (uf (uf (uf (uf (uf (uf (uf f 10 (upd (f 10) (x_pos n (n 9)) ra)) 11 (upd (f 11) (x_pos n (n 9)) rb)) 12 (upd (f 12) (x_pos n (n 9)) rg)) 13 (upd (f 13) (x_pos n (n 9)) rk)) 14 (upd (f 14) (x_pos n (n 9)) rt)) 15 (upd (f 15) (x_pos n (n 9)) (nI 0))) 16 (upd (f 16) (x_pos n (n 9)) rs))) = (wX cs a (un n 9 ((n 9) + 1)) (x_app n f ra rb rg rk rt rs)) := by rfl
    rw [← e9]; exact hP
  exact wr_iret hx hb hr hlocks hP hS dX2_append_90

set_option maxHeartbeats 4000000 in
set_option maxRecDepth 100000 in
theorem c_X2_dropOldest (l : Launch) (dC : Nat → ClassId) (dI : Nat → Nat → Nat) (cs : ClassId × ClassId) (a n : Nat → Nat) (f : Nat → Nat → Int32) (sz : Nat) (hB : x_bd n) (h1 : 0 < n 9)  : Met l yX2_dropOldest wsX2_dropOldest ({ frames := 1, cells := 0, slots := 0, locals := 22 }) (wrPc (dC, dI) vwCl (wX cs a n f) (tyl cs) sz [.ref (a 2)]) (wrQ (dC, dI) vwCl (wX cs a (un (un (un n 8 (x_pos n 1)) 9 ((n 9) - 1)) 10 ((n 10) + 1)) f) none (va_A (wX cs a n f) sz)) 0 0 (va_A (wX cs a n f) sz) := by
  refine wr_of (cc := cX2_dropOldest) (maxL := 1) (ret := none) (own := RX2) (by decide) rfl rfl (Nat.le_of_ble_eq_true rfl) ?_
  intro p e s m below meth c A hsz hAe hx hb hr hml hts hown hlocks hP hK hD hA hS ls hl
  have hl : lv_has ls 1 [(0, .ref (a 2))] := hl
  have hinX2 : ∀ w ∈ wsX20, w ∈ wsX2_dropOldest := by decide +kernel
  obtain ⟨B1, B2, B3, B4, B5, B6, B7, B8, B9, B10, B11, B12, B13, B14, B15⟩ := id hB
  refine lv_aload_n hx hb dX2_dropOldest_0 rfl (lv_at hl 0 rfl) ?_
  refine va_get (D := (dC, dI)) (ci := 3) (v := .int (nI (n 9))) (C := RX2) (T := TX2) (N := 10) hx hb hts hinX2 hown hK hP 2 rfl rfl 8 (by decide) (hts (.fieldLink RX2 33 "RenameRows$Ring" "rows" "I") (by decide +kernel)) (fun _ h9 => h9) rfl dX2_dropOldest_1 ?_
  refine lv_if_le (tgt := 36) hx hb dX2_dropOldest_4 (by decide) (fun c_1 => absurd ((nI_leI (by omega) (by omega)).mp (show _ ≤ nI 0 from c_1)) (by omega)) (fun c_1 => ?_)
  have c_1 : ¬ (n 9) ≤ 0 := fun q => c_1 (show _ ≤ nI 0 from (nI_leI (by omega) (by omega)).mpr q)
  refine lv_aload_n hx hb dX2_dropOldest_7 rfl (lv_at hl 0 rfl) ?_
  refine lv_aload_n hx hb dX2_dropOldest_8 rfl (lv_at hl 0 rfl) ?_
  refine lv_iconst (v := nI 1) hx hb dX2_dropOldest_9 (by decide) ?_
  refine W.callR (W.runV (As := [.int (nI 1)]) (rest := [.ref (a 2)]) ⟨hx, hb, hml, hown, hts⟩ (c_X2_placeOfAge l dC dI cs a n f 1 hB (by omega)) (cwV 1 hts gX2_dropOldest_X2_placeOfAge rfl rfl rfl (by decide +kernel) ⟨Nat.le_of_ble_eq_true rfl, Nat.le_of_ble_eq_true rfl⟩) (rd_preV (q := (RX2, TX2, 10)) hP hK 2 rfl rfl) rfl rfl hl.1 rfl (lv_room (Nat.le_of_ble_eq_true rfl)) dX2_dropOldest_10 ⟨Nat.zero_le _, Nat.zero_le _⟩) ?_
  refine W.eq (g2 := F0 m 13 ls (.int (nI (x_pos n 1)) :: [.ref (a 2)])) rfl ?_
  have k_2 := x_pos_lt (n := n) (i := 1) (by omega) (by omega)
  refine va_put (D := (dC, dI)) (ci := 3) (v := .int (nI (x_pos n 1))) (ty := .int) (C := RX2) (T := TX2) (N := 10) hx hb hts hinX2 tyX2 tyX2_ok nmX2 hown hK hP hD hS 2 rfl rfl 7 (by decide) (hts (.fieldLink RX2 51 "RenameRows$Ring" "oldest" "I") (by decide +kernel)) (fun _ h9 => h9) rfl (by decide +kernel) rfl rfl (Nat.le_of_ble_eq_true rfl) dX2_dropOldest_13 (fun H locs hP hD hS => ?_)
  have hP : va_P (dC, dI) vwCl (wX cs a (un n 8 (x_pos n 1)) f) H := hP
  have hD : va_D A (wX cs a (un n 8 (x_pos n 1)) f) := hD
  refine lv_aload_n hx hb dX2_dropOldest_16 rfl (lv_at hl 0 rfl) ?_
  refine lv_dup hx hb dX2_dropOldest_17 rfl ?_
  refine va_get (D := (dC, dI)) (ci := 3) (v := .int (nI (n 9))) (C := RX2) (T := TX2) (N := 10) hx hb hts hinX2 hown hK hP 2 rfl rfl 8 (by decide) (hts (.fieldLink RX2 33 "RenameRows$Ring" "rows" "I") (by decide +kernel)) (fun _ h9 => h9) rfl dX2_dropOldest_18 ?_
  refine lv_iconst (v := nI 1) hx hb dX2_dropOldest_21 (by decide) ?_
  refine lv_isub hx hb dX2_dropOldest_22 ?_
  refine tp_eq (pk_sub (by omega)) ?_
  refine va_put (D := (dC, dI)) (ci := 3) (v := .int (nI ((n 9) - 1))) (ty := .int) (C := RX2) (T := TX2) (N := 10) hx hb hts hinX2 tyX2 tyX2_ok nmX2 hown hK hP hD hS 2 rfl rfl 8 (by decide) (hts (.fieldLink RX2 33 "RenameRows$Ring" "rows" "I") (by decide +kernel)) (fun _ h9 => h9) rfl (by decide +kernel) rfl rfl (Nat.le_of_ble_eq_true rfl) dX2_dropOldest_23 (fun H locs hP hD hS => ?_)
  have hP : va_P (dC, dI) vwCl (wX cs a (un (un n 8 (x_pos n 1)) 9 ((n 9) - 1)) f) H := hP
  have hD : va_D A (wX cs a (un (un n 8 (x_pos n 1)) 9 ((n 9) - 1)) f) := hD
  refine lv_aload_n hx hb dX2_dropOldest_26 rfl (lv_at hl 0 rfl) ?_
  refine lv_dup hx hb dX2_dropOldest_27 rfl ?_
  refine va_get (D := (dC, dI)) (ci := 3) (v := .int (nI (n 10))) (C := RX2) (T := TX2) (N := 10) hx hb hts hinX2 hown hK hP 2 rfl rfl 9 (by decide) (hts (.fieldLink RX2 37 "RenameRows$Ring" "done" "I") (by decide +kernel)) (fun _ h9 => h9) rfl dX2_dropOldest_28 ?_
  refine lv_iconst (v := nI 1) hx hb dX2_dropOldest_31 (by decide) ?_
  refine lv_iadd hx hb dX2_dropOldest_32 ?_
  refine tp_eq (nI_add (n 10) 1) ?_
  refine va_put (D := (dC, dI)) (ci := 3) (v := .int (nI ((n 10) + 1))) (ty := .int) (C := RX2) (T := TX2) (N := 10) hx hb hts hinX2 tyX2 tyX2_ok nmX2 hown hK hP hD hS 2 rfl rfl 9 (by decide) (hts (.fieldLink RX2 37 "RenameRows$Ring" "done" "I") (by decide +kernel)) (fun _ h9 => h9) rfl (by decide +kernel) rfl rfl (Nat.le_of_ble_eq_true rfl) dX2_dropOldest_33 (fun H locs hP hD hS => ?_)
  have hP : va_P (dC, dI) vwCl (wX cs a (un (un (un n 8 (x_pos n 1)) 9 ((n 9) - 1)) 10 ((n 10) + 1)) f) H := hP
  have hD : va_D A (wX cs a (un (un (un n 8 (x_pos n 1)) 9 ((n 9) - 1)) 10 ((n 10) + 1)) f) := hD
  exact wr_vret hx hb hr hlocks hP hS dX2_dropOldest_36

set_option maxHeartbeats 4000000 in
set_option maxRecDepth 100000 in
theorem c_X2_dropLast (l : Launch) (dC : Nat → ClassId) (dI : Nat → Nat → Nat) (cs : ClassId × ClassId) (a n : Nat → Nat) (f : Nat → Nat → Int32) (sz : Nat) (hB : x_bd n) (h1 : 0 < n 9)  : Met l yX2_dropLast wsX2_dropLast ({ frames := 0, cells := 0, slots := 0, locals := 0 }) (wrPc (dC, dI) vwCl (wX cs a n f) (tyl cs) sz [.ref (a 2)]) (wrQ (dC, dI) vwCl (wX cs a (un n 9 ((n 9) - 1)) f) none (va_A (wX cs a n f) sz)) 0 0 (va_A (wX cs a n f) sz) := by
  refine wr_of (cc := cX2_dropLast) (maxL := 1) (ret := none) (own := RX2) (by decide) rfl rfl (Nat.le_of_ble_eq_true rfl) ?_
  intro p e s m below meth c A hsz hAe hx hb hr hml hts hown hlocks hP hK hD hA hS ls hl
  have hl : lv_has ls 1 [(0, .ref (a 2))] := hl
  have hinX2 : ∀ w ∈ wsX20, w ∈ wsX2_dropLast := by decide +kernel
  obtain ⟨B1, B2, B3, B4, B5, B6, B7, B8, B9, B10, B11, B12, B13, B14, B15⟩ := id hB
  refine lv_aload_n hx hb dX2_dropLast_0 rfl (lv_at hl 0 rfl) ?_
  refine va_get (D := (dC, dI)) (ci := 3) (v := .int (nI (n 9))) (C := RX2) (T := TX2) (N := 10) hx hb hts hinX2 hown hK hP 2 rfl rfl 8 (by decide) (hts (.fieldLink RX2 33 "RenameRows$Ring" "rows" "I") (by decide +kernel)) (fun _ h9 => h9) rfl dX2_dropLast_1 ?_
  refine lv_if_le (tgt := 17) hx hb dX2_dropLast_4 (by decide) (fun c_1 => absurd ((nI_leI (by omega) (by omega)).mp (show _ ≤ nI 0 from c_1)) (by omega)) (fun c_1 => ?_)
  have c_1 : ¬ (n 9) ≤ 0 := fun q => c_1 (show _ ≤ nI 0 from (nI_leI (by omega) (by omega)).mpr q)
  refine lv_aload_n hx hb dX2_dropLast_7 rfl (lv_at hl 0 rfl) ?_
  refine lv_dup hx hb dX2_dropLast_8 rfl ?_
  refine va_get (D := (dC, dI)) (ci := 3) (v := .int (nI (n 9))) (C := RX2) (T := TX2) (N := 10) hx hb hts hinX2 hown hK hP 2 rfl rfl 8 (by decide) (hts (.fieldLink RX2 33 "RenameRows$Ring" "rows" "I") (by decide +kernel)) (fun _ h9 => h9) rfl dX2_dropLast_9 ?_
  refine lv_iconst (v := nI 1) hx hb dX2_dropLast_12 (by decide) ?_
  refine lv_isub hx hb dX2_dropLast_13 ?_
  refine tp_eq (pk_sub (by omega)) ?_
  refine va_put (D := (dC, dI)) (ci := 3) (v := .int (nI ((n 9) - 1))) (ty := .int) (C := RX2) (T := TX2) (N := 10) hx hb hts hinX2 tyX2 tyX2_ok nmX2 hown hK hP hD hS 2 rfl rfl 8 (by decide) (hts (.fieldLink RX2 33 "RenameRows$Ring" "rows" "I") (by decide +kernel)) (fun _ h9 => h9) rfl (by decide +kernel) rfl rfl (Nat.le_of_ble_eq_true rfl) dX2_dropLast_14 (fun H locs hP hD hS => ?_)
  have hP : va_P (dC, dI) vwCl (wX cs a (un n 9 ((n 9) - 1)) f) H := hP
  have hD : va_D A (wX cs a (un n 9 ((n 9) - 1)) f) := hD
  exact wr_vret hx hb hr hlocks hP hS dX2_dropLast_17

set_option maxHeartbeats 4000000 in
set_option maxRecDepth 100000 in
theorem c_X2_setPort (l : Launch) (dC : Nat → ClassId) (dI : Nat → Nat → Nat) (cs : ClassId × ClassId) (a n : Nat → Nat) (f : Nat → Nat → Int32) (sz : Nat) (j : Nat) (v : Int32) (hB : x_bd n) (h1 : j < n 2)  : Met l yX2_setPort wsX2_setPort ({ frames := 1, cells := 0, slots := 0, locals := 21 }) (wrPc (dC, dI) vwCl (wX cs a n f) (tyl cs) sz [.ref (a 2), .int (nI j), .int v]) (wrQ (dC, dI) vwCl (wX cs a n (uf f 15 (upd (f 15) j v))) none (va_A (wX cs a n f) sz)) 0 0 (va_A (wX cs a n f) sz) := by
  refine wr_of (cc := cX2_setPort) (maxL := 3) (ret := none) (own := RX2) (by decide) rfl rfl (Nat.le_of_ble_eq_true rfl) ?_
  intro p e s m below meth c A hsz hAe hx hb hr hml hts hown hlocks hP hK hD hA hS ls hl
  have hl : lv_has ls 3 [(0, .ref (a 2)), (1, .int (nI j)), (2, .int v)] := hl
  have hinX2 : ∀ w ∈ wsX20, w ∈ wsX2_setPort := by decide +kernel
  obtain ⟨B1, B2, B3, B4, B5, B6, B7, B8, B9, B10, B11, B12, B13, B14, B15⟩ := id hB
  refine lv_aload_n hx hb dX2_setPort_0 rfl (lv_at hl 0 rfl) ?_
  refine lv_iload_n hx hb dX2_setPort_1 rfl (lv_at hl 1 rfl) ?_
  refine W.callR (W.runV (As := [.int (nI j)]) (rest := []) ⟨hx, hb, hml, hown, hts⟩ (c_X2_isPlace l dC dI cs a n f (nI j) hB) (cwV 1 hts gX2_setPort_X2_isPlace rfl rfl rfl (by decide +kernel) ⟨Nat.le_of_ble_eq_true rfl, Nat.le_of_ble_eq_true rfl⟩) (rd_preV (q := (RX2, TX2, 10)) hP hK 2 rfl rfl) rfl rfl hl.1 rfl (lv_room (Nat.le_of_ble_eq_true rfl)) dX2_setPort_2 ⟨Nat.zero_le _, Nat.zero_le _⟩) ?_
  refine W.eq (g2 := F0 m 5 ls (.int (b2i (inB (nI j) (n 2))) :: [])) rfl ?_
  refine lv_if_eq (tgt := 15) hx hb dX2_setPort_5 (by decide) (fun c_1 => absurd (show j < n 2 by omega) (inB_nl (b2i_f c_1) (by omega) (by omega))) (fun c_1 => ?_)
  have c_1 : inB (nI j) (n 2) = true := b2i_t c_1
  refine lv_aload_n hx hb dX2_setPort_8 rfl (lv_at hl 0 rfl) ?_
  refine va_get (D := (dC, dI)) (ci := 3) (v := .ref (a 15)) (C := RX2) (T := TX2) (N := 10) hx hb hts hinX2 hown hK hP 2 rfl rfl 5 (by decide) (hts (.fieldLink RX2 27 "RenameRows$Ring" "port" "[I") (by decide +kernel)) (fun _ h9 => h9) rfl dX2_setPort_9 ?_
  refine lv_iload_n hx hb dX2_setPort_12 rfl (lv_at hl 1 rfl) ?_
  refine lv_iload_n hx hb dX2_setPort_13 rfl (lv_at hl 2 rfl) ?_
  refine ar_st (D := (dC, dI)) (n := n 2) (f := f 15) hx hb hK hP hD hS 15 0 rfl rfl (by omega) (by omega) dX2_setPort_14 (fun H locs hP hD hS => ?_)
  have hP : va_P (dC, dI) vwCl (wX cs a n (uf f 15 (upd (f 15) j v))) H := hP
  have hD : va_D A (wX cs a n (uf f 15 (upd (f 15) j v))) := hD
  exact wr_vret hx hb hr hlocks hP hS dX2_setPort_15

set_option maxHeartbeats 4000000 in
set_option maxRecDepth 100000 in
theorem c_X2_setState (l : Launch) (dC : Nat → ClassId) (dI : Nat → Nat → Nat) (cs : ClassId × ClassId) (a n : Nat → Nat) (f : Nat → Nat → Int32) (sz : Nat) (j : Nat) (v : Int32) (hB : x_bd n) (h1 : j < n 2)  : Met l yX2_setState wsX2_setState ({ frames := 1, cells := 0, slots := 0, locals := 21 }) (wrPc (dC, dI) vwCl (wX cs a n f) (tyl cs) sz [.ref (a 2), .int (nI j), .int v]) (wrQ (dC, dI) vwCl (wX cs a n (uf f 16 (upd (f 16) j v))) none (va_A (wX cs a n f) sz)) 0 0 (va_A (wX cs a n f) sz) := by
  refine wr_of (cc := cX2_setState) (maxL := 3) (ret := none) (own := RX2) (by decide) rfl rfl (Nat.le_of_ble_eq_true rfl) ?_
  intro p e s m below meth c A hsz hAe hx hb hr hml hts hown hlocks hP hK hD hA hS ls hl
  have hl : lv_has ls 3 [(0, .ref (a 2)), (1, .int (nI j)), (2, .int v)] := hl
  have hinX2 : ∀ w ∈ wsX20, w ∈ wsX2_setState := by decide +kernel
  obtain ⟨B1, B2, B3, B4, B5, B6, B7, B8, B9, B10, B11, B12, B13, B14, B15⟩ := id hB
  refine lv_aload_n hx hb dX2_setState_0 rfl (lv_at hl 0 rfl) ?_
  refine lv_iload_n hx hb dX2_setState_1 rfl (lv_at hl 1 rfl) ?_
  refine W.callR (W.runV (As := [.int (nI j)]) (rest := []) ⟨hx, hb, hml, hown, hts⟩ (c_X2_isPlace l dC dI cs a n f (nI j) hB) (cwV 1 hts gX2_setState_X2_isPlace rfl rfl rfl (by decide +kernel) ⟨Nat.le_of_ble_eq_true rfl, Nat.le_of_ble_eq_true rfl⟩) (rd_preV (q := (RX2, TX2, 10)) hP hK 2 rfl rfl) rfl rfl hl.1 rfl (lv_room (Nat.le_of_ble_eq_true rfl)) dX2_setState_2 ⟨Nat.zero_le _, Nat.zero_le _⟩) ?_
  refine W.eq (g2 := F0 m 5 ls (.int (b2i (inB (nI j) (n 2))) :: [])) rfl ?_
  refine lv_if_eq (tgt := 15) hx hb dX2_setState_5 (by decide) (fun c_1 => absurd (show j < n 2 by omega) (inB_nl (b2i_f c_1) (by omega) (by omega))) (fun c_1 => ?_)
  have c_1 : inB (nI j) (n 2) = true := b2i_t c_1
  refine lv_aload_n hx hb dX2_setState_8 rfl (lv_at hl 0 rfl) ?_
  refine va_get (D := (dC, dI)) (ci := 3) (v := .ref (a 16)) (C := RX2) (T := TX2) (N := 10) hx hb hts hinX2 hown hK hP 2 rfl rfl 6 (by decide) (hts (.fieldLink RX2 30 "RenameRows$Ring" "state" "[I") (by decide +kernel)) (fun _ h9 => h9) rfl dX2_setState_9 ?_
  refine lv_iload_n hx hb dX2_setState_12 rfl (lv_at hl 1 rfl) ?_
  refine lv_iload_n hx hb dX2_setState_13 rfl (lv_at hl 2 rfl) ?_
  refine ar_st (D := (dC, dI)) (n := n 2) (f := f 16) hx hb hK hP hD hS 16 0 rfl rfl (by omega) (by omega) dX2_setState_14 (fun H locs hP hD hS => ?_)
  have hP : va_P (dC, dI) vwCl (wX cs a n (uf f 16 (upd (f 16) j v))) H := hP
  have hD : va_D A (wX cs a n (uf f 16 (upd (f 16) j v))) := hD
  exact wr_vret hx hb hr hlocks hP hS dX2_setState_15

set_option maxHeartbeats 4000000 in
set_option maxRecDepth 100000 in
theorem c_X1_takeFirstFree (l : Launch) (dC : Nat → ClassId) (dI : Nat → Nat → Nat) (cs : ClassId × ClassId) (a n : Nat → Nat) (f : Nat → Nat → Int32) (sz : Nat) (q : Nat) (hq : f 9 (n 6) = nI q) (hB : x_bd n) (h1 : 0 < n 7) (h2 : q < n 1)  : Met l yX1_takeFirstFree wsX1_takeFirstFree ({ frames := 1, cells := 0, slots := 0, locals := 22 }) (wrPc (dC, dI) vwCl (wX cs a n f) (tyl cs) sz [.ref (a 1)]) (wrQ (dC, dI) vwCl (wX cs a (un (un n 6 (x_slot n 1)) 7 ((n 7) - 1)) (uf (uf f 7 (upd (f 7) q (nI 1))) 8 (upd (f 8) q (nI 0)))) (some (.int (nI q))) (va_A (wX cs a n f) sz)) 0 0 (va_A (wX cs a n f) sz) := by
  refine wr_of (cc := cX1_takeFirstFree) (maxL := 2) (ret := (some .int)) (own := RX1) (by decide) rfl rfl (Nat.le_of_ble_eq_true rfl) ?_
  intro p e s m below meth c A hsz hAe hx hb hr hml hts hown hlocks hP hK hD hA hS ls hl
  have hl : lv_has ls 2 [(0, .ref (a 1))] := hl
  have hinX1 : ∀ w ∈ wsX10, w ∈ wsX1_takeFirstFree := by decide +kernel
  obtain ⟨B1, B2, B3, B4, B5, B6, B7, B8, B9, B10, B11, B12, B13, B14, B15⟩ := id hB
  refine lv_aload_n hx hb dX1_takeFirstFree_0 rfl (lv_at hl 0 rfl) ?_
  refine va_get (D := (dC, dI)) (ci := 2) (v := .int (nI (n 7))) (C := RX1) (T := TX1) (N := 5) hx hb hts hinX1 hown hK hP 1 rfl rfl 4 (by decide) (hts (.fieldLink RX1 22 "RenameRows$Names" "free" "I") (by decide +kernel)) (fun _ h9 => h9) rfl dX1_takeFirstFree_1 ?_
  refine lv_if_ne (tgt := 9) hx hb dX1_takeFirstFree_4 (by decide) (fun c_1 => ?_) (fun c_1 => absurd ((nI_z (by omega)).mp c_1) (by omega))
  have c_1 : ¬ (n 7) = 0 := fun q => c_1 ((nI_z (by omega)).mpr q)
  refine lv_aload_n hx hb dX1_takeFirstFree_9 rfl (lv_at hl 0 rfl) ?_
  refine va_get (D := (dC, dI)) (ci := 2) (v := .ref (a 9)) (C := RX1) (T := TX1) (N := 5) hx hb hts hinX1 hown hK hP 1 rfl rfl 2 (by decide) (hts (.fieldLink RX1 19 "RenameRows$Names" "queued" "[I") (by decide +kernel)) (fun _ h9 => h9) rfl dX1_takeFirstFree_10 ?_
  refine lv_aload_n hx hb dX1_takeFirstFree_13 rfl (lv_at hl 0 rfl) ?_
  refine va_get (D := (dC, dI)) (ci := 2) (v := .int (nI (n 6))) (C := RX1) (T := TX1) (N := 5) hx hb hts hinX1 hown hK hP 1 rfl rfl 3 (by decide) (hts (.fieldLink RX1 34 "RenameRows$Names" "first" "I") (by decide +kernel)) (fun _ h9 => h9) rfl dX1_takeFirstFree_14 ?_
  refine ar_ld (D := (dC, dI)) (n := n 1) (f := f 9) hx hb hK hP 9 0 rfl rfl (by omega) (by omega) dX1_takeFirstFree_17 ?_
  refine tp_eq hq ?_
  refine lv_istore_n (lv' := [(1, .int (nI q)), (0, .ref (a 1))]) hx hb dX1_takeFirstFree_18 rfl hl (by decide) rfl (fun ls hl => ?_)
  refine lv_aload_n hx hb dX1_takeFirstFree_19 rfl (lv_at hl 1 rfl) ?_
  refine lv_aload_n hx hb dX1_takeFirstFree_20 rfl (lv_at hl 1 rfl) ?_
  refine lv_iconst (v := nI 1) hx hb dX1_takeFirstFree_21 (by decide) ?_
  refine W.callR (W.runV (As := [.int (nI 1)]) (rest := [.ref (a 1)]) ⟨hx, hb, hml, hown, hts⟩ (c_X1_slotOf l dC dI cs a n f 1 hB (by omega)) (cwV 1 hts gX1_takeFirstFree_X1_slotOf rfl rfl rfl (by decide +kernel) ⟨Nat.le_of_ble_eq_true rfl, Nat.le_of_ble_eq_true rfl⟩) (rd_preV (q := (RX1, TX1, 5)) hP hK 1 rfl rfl) rfl rfl hl.1 rfl (lv_room (Nat.le_of_ble_eq_true rfl)) dX1_takeFirstFree_22 ⟨Nat.zero_le _, Nat.zero_le _⟩) ?_
  refine W.eq (g2 := F0 m 25 ls (.int (nI (x_slot n 1)) :: [.ref (a 1)])) rfl ?_
  have k_2 := x_slot_lt (n := n) (k := 1) (by omega) (by omega)
  refine va_put (D := (dC, dI)) (ci := 2) (v := .int (nI (x_slot n 1))) (ty := .int) (C := RX1) (T := TX1) (N := 5) hx hb hts hinX1 tyX1 tyX1_ok nmX1 hown hK hP hD hS 1 rfl rfl 3 (by decide) (hts (.fieldLink RX1 34 "RenameRows$Names" "first" "I") (by decide +kernel)) (fun _ h9 => h9) rfl (by decide +kernel) rfl rfl (Nat.le_of_ble_eq_true rfl) dX1_takeFirstFree_25 (fun H locs hP hD hS => ?_)
  have hP : va_P (dC, dI) vwCl (wX cs a (un n 6 (x_slot n 1)) f) H := hP
  have hD : va_D A (wX cs a (un n 6 (x_slot n 1)) f) := hD
  refine lv_aload_n hx hb dX1_takeFirstFree_28 rfl (lv_at hl 1 rfl) ?_
  refine lv_dup hx hb dX1_takeFirstFree_29 rfl ?_
  refine va_get (D := (dC, dI)) (ci := 2) (v := .int (nI (n 7))) (C := RX1) (T := TX1) (N := 5) hx hb hts hinX1 hown hK hP 1 rfl rfl 4 (by decide) (hts (.fieldLink RX1 22 "RenameRows$Names" "free" "I") (by decide +kernel)) (fun _ h9 => h9) rfl dX1_takeFirstFree_30 ?_
  refine lv_iconst (v := nI 1) hx hb dX1_takeFirstFree_33 (by decide) ?_
  refine lv_isub hx hb dX1_takeFirstFree_34 ?_
  refine tp_eq (pk_sub (by omega)) ?_
  refine va_put (D := (dC, dI)) (ci := 2) (v := .int (nI ((n 7) - 1))) (ty := .int) (C := RX1) (T := TX1) (N := 5) hx hb hts hinX1 tyX1 tyX1_ok nmX1 hown hK hP hD hS 1 rfl rfl 4 (by decide) (hts (.fieldLink RX1 22 "RenameRows$Names" "free" "I") (by decide +kernel)) (fun _ h9 => h9) rfl (by decide +kernel) rfl rfl (Nat.le_of_ble_eq_true rfl) dX1_takeFirstFree_35 (fun H locs hP hD hS => ?_)
  have hP : va_P (dC, dI) vwCl (wX cs a (un (un n 6 (x_slot n 1)) 7 ((n 7) - 1)) f) H := hP
  have hD : va_D A (wX cs a (un (un n 6 (x_slot n 1)) 7 ((n 7) - 1)) f) := hD
  refine lv_aload_n hx hb dX1_takeFirstFree_38 rfl (lv_at hl 1 rfl) ?_
  refine va_get (D := (dC, dI)) (ci := 2) (v := .ref (a 7)) (C := RX1) (T := TX1) (N := 5) hx hb hts hinX1 hown hK hP 1 rfl rfl 0 (by decide) (hts (.fieldLink RX1 9 "RenameRows$Names" "held" "[I") (by decide +kernel)) (fun _ h9 => h9) rfl dX1_takeFirstFree_39 ?_
  refine lv_iload_n hx hb dX1_takeFirstFree_42 rfl (lv_at hl 0 rfl) ?_
  refine lv_iconst (v := nI 1) hx hb dX1_takeFirstFree_43 (by decide) ?_
  refine ar_st (D := (dC, dI)) (n := n 1) (f := f 7) hx hb hK hP hD hS 7 0 rfl rfl (by omega) (by omega) dX1_takeFirstFree_44 (fun H locs hP hD hS => ?_)
  have hP : va_P (dC, dI) vwCl (wX cs a (un (un n 6 (x_slot n 1)) 7 ((n 7) - 1)) (uf f 7 (upd (f 7) q (nI 1)))) H := hP
  have hD : va_D A (wX cs a (un (un n 6 (x_slot n 1)) 7 ((n 7) - 1)) (uf f 7 (upd (f 7) q (nI 1)))) := hD
  refine lv_aload_n hx hb dX1_takeFirstFree_45 rfl (lv_at hl 1 rfl) ?_
  refine va_get (D := (dC, dI)) (ci := 2) (v := .ref (a 8)) (C := RX1) (T := TX1) (N := 5) hx hb hts hinX1 hown hK hP 1 rfl rfl 1 (by decide) (hts (.fieldLink RX1 15 "RenameRows$Names" "ready" "[Z") (by decide +kernel)) (fun _ h9 => h9) rfl dX1_takeFirstFree_46 ?_
  refine lv_iload_n hx hb dX1_takeFirstFree_49 rfl (lv_at hl 0 rfl) ?_
  refine lv_iconst (v := nI 0) hx hb dX1_takeFirstFree_50 (by decide) ?_
  refine ar_zst (D := (dC, dI)) (n := n 1) (f := f 8) hx hb hK hP hD hS 8 1 rfl rfl (y := nI 0) (by decide) (by omega) (by omega) dX1_takeFirstFree_51 (fun H locs hP hD hS => ?_)
  have hP : va_P (dC, dI) vwCl (wX cs a (un (un n 6 (x_slot n 1)) 7 ((n 7) - 1)) (uf (uf f 7 (upd (f 7) q (nI 1))) 8 (upd (f 8) q (nI 0)))) H := hP
  have hD : va_D A (wX cs a (un (un n 6 (x_slot n 1)) 7 ((n 7) - 1)) (uf (uf f 7 (upd (f 7) q (nI 1))) 8 (upd (f 8) q (nI 0)))) := hD
  refine lv_iload_n hx hb dX1_takeFirstFree_52 rfl (lv_at hl 0 rfl) ?_
  exact wr_iret hx hb hr hlocks hP hS dX1_takeFirstFree_53

set_option maxHeartbeats 4000000 in
set_option maxRecDepth 100000 in
theorem c_X1_addShare (l : Launch) (dC : Nat → ClassId) (dI : Nat → Nat → Nat) (cs : ClassId × ClassId) (a n : Nat → Nat) (f : Nat → Nat → Int32) (sz : Nat) (q : Nat) (hB : x_bd n) (h1 : q < n 1)  : Met l yX1_addShare wsX1_addShare ({ frames := 1, cells := 0, slots := 0, locals := 21 }) (wrPc (dC, dI) vwCl (wX cs a n f) (tyl cs) sz [.ref (a 1), .int (nI q)]) (wrQ (dC, dI) vwCl (wX cs a n (uf f 7 (upd (f 7) q (((f 7 q) + nI 1))))) none (va_A (wX cs a n f) sz)) 0 0 (va_A (wX cs a n f) sz) := by
  refine wr_of (cc := cX1_addShare) (maxL := 2) (ret := none) (own := RX1) (by decide) rfl rfl (Nat.le_of_ble_eq_true rfl) ?_
  intro p e s m below meth c A hsz hAe hx hb hr hml hts hown hlocks hP hK hD hA hS ls hl
  have hl : lv_has ls 2 [(0, .ref (a 1)), (1, .int (nI q))] := hl
  have hinX1 : ∀ w ∈ wsX10, w ∈ wsX1_addShare := by decide +kernel
  obtain ⟨B1, B2, B3, B4, B5, B6, B7, B8, B9, B10, B11, B12, B13, B14, B15⟩ := id hB
  refine lv_aload_n hx hb dX1_addShare_0 rfl (lv_at hl 0 rfl) ?_
  refine lv_iload_n hx hb dX1_addShare_1 rfl (lv_at hl 1 rfl) ?_
  refine W.callR (W.runV (As := [.int (nI q)]) (rest := []) ⟨hx, hb, hml, hown, hts⟩ (c_X1_isName l dC dI cs a n f (nI q) hB) (cwV 1 hts gX1_addShare_X1_isName rfl rfl rfl (by decide +kernel) ⟨Nat.le_of_ble_eq_true rfl, Nat.le_of_ble_eq_true rfl⟩) (rd_preV (q := (RX1, TX1, 5)) hP hK 1 rfl rfl) rfl rfl hl.1 rfl (lv_room (Nat.le_of_ble_eq_true rfl)) dX1_addShare_2 ⟨Nat.zero_le _, Nat.zero_le _⟩) ?_
  refine W.eq (g2 := F0 m 5 ls (.int (b2i (inB (nI q) (n 1))) :: [])) rfl ?_
  refine lv_if_eq (tgt := 18) hx hb dX1_addShare_5 (by decide) (fun c_1 => absurd (show q < n 1 by omega) (inB_nl (b2i_f c_1) (by omega) (by omega))) (fun c_1 => ?_)
  have c_1 : inB (nI q) (n 1) = true := b2i_t c_1
  refine lv_aload_n hx hb dX1_addShare_8 rfl (lv_at hl 0 rfl) ?_
  refine va_get (D := (dC, dI)) (ci := 2) (v := .ref (a 7)) (C := RX1) (T := TX1) (N := 5) hx hb hts hinX1 hown hK hP 1 rfl rfl 0 (by decide) (hts (.fieldLink RX1 9 "RenameRows$Names" "held" "[I") (by decide +kernel)) (fun _ h9 => h9) rfl dX1_addShare_9 ?_
  refine lv_iload_n hx hb dX1_addShare_12 rfl (lv_at hl 1 rfl) ?_
  refine lv_dup2_11 hx hb dX1_addShare_13 rfl rfl ?_
  refine ar_ld (D := (dC, dI)) (n := n 1) (f := f 7) hx hb hK hP 7 0 rfl rfl (by omega) (by omega) dX1_addShare_14 ?_
  refine lv_iconst (v := nI 1) hx hb dX1_addShare_15 (by decide) ?_
  refine lv_iadd hx hb dX1_addShare_16 ?_
  refine ar_st (D := (dC, dI)) (n := n 1) (f := f 7) hx hb hK hP hD hS 7 0 rfl rfl (by omega) (by omega) dX1_addShare_17 (fun H locs hP hD hS => ?_)
  have hP : va_P (dC, dI) vwCl (wX cs a n (uf f 7 (upd (f 7) q ((f 7 q) + nI 1)))) H := hP
  have hD : va_D A (wX cs a n (uf f 7 (upd (f 7) q ((f 7 q) + nI 1)))) := hD
  have hP : va_P (dC, dI) vwCl (wX cs a n (uf f 7 (upd (f 7) q (((f 7 q) + nI 1))))) H := by
    have e9 : (wX cs a n (uf f 7 (upd (f 7) q ((f 7 q) + nI 1)))) = (wX cs a n (uf f 7 (upd (f 7) q (((f 7 q) + nI 1))))) := by first | (simp [c_1]; done) | (simp [nI_0, c_1]; done) | (simp [c_1]; omega)
    rw [← e9]; exact hP
  exact wr_vret hx hb hr hlocks hP hS dX1_addShare_18

set_option maxHeartbeats 4000000 in
set_option maxRecDepth 100000 in
theorem c_X1_giveBack (l : Launch) (dC : Nat → ClassId) (dI : Nat → Nat → Nat) (cs : ClassId × ClassId) (a n : Nat → Nat) (f : Nat → Nat → Int32) (sz : Nat) (q : Nat) (hB : x_bd n) (h1 : q < n 1) (h2 : ¬ f 7 q = 0) (h3 : n 7 < n 1)  : Met l yX1_giveBack wsX1_giveBack ({ frames := 1, cells := 0, slots := 0, locals := 22 }) (wrPc (dC, dI) vwCl (wX cs a n f) (tyl cs) sz [.ref (a 1), .int (nI q)]) (wrQ (dC, dI) vwCl (wX cs a (x_gN n f q) (x_gF n f q)) none (va_A (wX cs a n f) sz)) 0 0 (va_A (wX cs a n f) sz) := by
  refine wr_of (cc := cX1_giveBack) (maxL := 2) (ret := none) (own := RX1) (by decide) rfl rfl (Nat.le_of_ble_eq_true rfl) ?_
  intro p e s m below meth c A hsz hAe hx hb hr hml hts hown hlocks hP hK hD hA hS ls hl
  have hl : lv_has ls 2 [(0, .ref (a 1)), (1, .int (nI q))] := hl
  have hinX1 : ∀ w ∈ wsX10, w ∈ wsX1_giveBack := by decide +kernel
  obtain ⟨B1, B2, B3, B4, B5, B6, B7, B8, B9, B10, B11, B12, B13, B14, B15⟩ := id hB
  refine lv_aload_n hx hb dX1_giveBack_0 rfl (lv_at hl 0 rfl) ?_
  refine lv_iload_n hx hb dX1_giveBack_1 rfl (lv_at hl 1 rfl) ?_
  refine W.callR (W.runV (As := [.int (nI q)]) (rest := []) ⟨hx, hb, hml, hown, hts⟩ (c_X1_isName l dC dI cs a n f (nI q) hB) (cwV 1 hts gX1_giveBack_X1_isName rfl rfl rfl (by decide +kernel) ⟨Nat.le_of_ble_eq_true rfl, Nat.le_of_ble_eq_true rfl⟩) (rd_preV (q := (RX1, TX1, 5)) hP hK 1 rfl rfl) rfl rfl hl.1 rfl (lv_room (Nat.le_of_ble_eq_true rfl)) dX1_giveBack_2 ⟨Nat.zero_le _, Nat.zero_le _⟩) ?_
  refine W.eq (g2 := F0 m 5 ls (.int (b2i (inB (nI q) (n 1))) :: [])) rfl ?_
  refine lv_if_eq (tgt := 17) hx hb dX1_giveBack_5 (by decide) (fun c_1 => absurd (show q < n 1 by omega) (inB_nl (b2i_f c_1) (by omega) (by omega))) (fun c_1 => ?_)
  have c_1 : inB (nI q) (n 1) = true := b2i_t c_1
  refine lv_aload_n hx hb dX1_giveBack_8 rfl (lv_at hl 0 rfl) ?_
  refine va_get (D := (dC, dI)) (ci := 2) (v := .ref (a 7)) (C := RX1) (T := TX1) (N := 5) hx hb hts hinX1 hown hK hP 1 rfl rfl 0 (by decide) (hts (.fieldLink RX1 9 "RenameRows$Names" "held" "[I") (by decide +kernel)) (fun _ h9 => h9) rfl dX1_giveBack_9 ?_
  refine lv_iload_n hx hb dX1_giveBack_12 rfl (lv_at hl 1 rfl) ?_
  refine ar_ld (D := (dC, dI)) (n := n 1) (f := f 7) hx hb hK hP 7 0 rfl rfl (by omega) (by omega) dX1_giveBack_13 ?_
  refine lv_if_ne (tgt := 18) hx hb dX1_giveBack_14 (by decide) (fun c_2 => ?_) (fun c_2 => absurd c_2 h2)
  refine lv_aload_n hx hb dX1_giveBack_18 rfl (lv_at hl 0 rfl) ?_
  refine va_get (D := (dC, dI)) (ci := 2) (v := .ref (a 7)) (C := RX1) (T := TX1) (N := 5) hx hb hts hinX1 hown hK hP 1 rfl rfl 0 (by decide) (hts (.fieldLink RX1 9 "RenameRows$Names" "held" "[I") (by decide +kernel)) (fun _ h9 => h9) rfl dX1_giveBack_19 ?_
  refine lv_iload_n hx hb dX1_giveBack_22 rfl (lv_at hl 1 rfl) ?_
  refine lv_dup2_11 hx hb dX1_giveBack_23 rfl rfl ?_
  refine ar_ld (D := (dC, dI)) (n := n 1) (f := f 7) hx hb hK hP 7 0 rfl rfl (by omega) (by omega) dX1_giveBack_24 ?_
  refine lv_iconst (v := nI 1) hx hb dX1_giveBack_25 (by decide) ?_
  refine lv_isub hx hb dX1_giveBack_26 ?_
  refine ar_st (D := (dC, dI)) (n := n 1) (f := f 7) hx hb hK hP hD hS 7 0 rfl rfl (by omega) (by omega) dX1_giveBack_27 (fun H locs hP hD hS => ?_)
  have hP : va_P (dC, dI) vwCl (wX cs a n (uf f 7 (upd (f 7) q ((f 7 q) - nI 1)))) H := hP
  have hD : va_D A (wX cs a n (uf f 7 (upd (f 7) q ((f 7 q) - nI 1)))) := hD
  refine lv_aload_n hx hb dX1_giveBack_28 rfl (lv_at hl 0 rfl) ?_
  refine va_get (D := (dC, dI)) (ci := 2) (v := .ref (a 7)) (C := RX1) (T := TX1) (N := 5) hx hb hts hinX1 hown hK hP 1 rfl rfl 0 (by decide) (hts (.fieldLink RX1 9 "RenameRows$Names" "held" "[I") (by decide +kernel)) (fun _ h9 => h9) rfl dX1_giveBack_29 ?_
  refine lv_iload_n hx hb dX1_giveBack_32 rfl (lv_at hl 1 rfl) ?_
  refine ar_ld (D := (dC, dI)) (n := n 1) (f := (upd (f 7) q ((f 7 q) - nI 1))) hx hb hK hP 7 0 rfl rfl (by omega) (by omega) dX1_giveBack_33 ?_
  refine lv_if_ne (tgt := 61) hx hb dX1_giveBack_34 (by decide) (fun c_3 => ?_) (fun c_3 => ?_)
  · rw [pk_us] at c_3
    have hP : va_P (dC, dI) vwCl (wX cs a (x_gN n f q) (x_gF n f q)) H := by
      have e9 : (wX cs a n (uf f 7 (upd (f 7) q ((f 7 q) - nI 1)))) = (wX cs a (x_gN n f q) (x_gF n f q)) := by simp [x_gN, x_gF, c_3]
      rw [← e9]; exact hP
    exact wr_vret hx hb hr hlocks hP hS dX1_giveBack_61
  · rw [pk_us] at c_3
    refine lv_aload_n hx hb dX1_giveBack_37 rfl (lv_at hl 0 rfl) ?_
    refine va_get (D := (dC, dI)) (ci := 2) (v := .ref (a 9)) (C := RX1) (T := TX1) (N := 5) hx hb hts hinX1 hown hK hP 1 rfl rfl 2 (by decide) (hts (.fieldLink RX1 19 "RenameRows$Names" "queued" "[I") (by decide +kernel)) (fun _ h9 => h9) rfl dX1_giveBack_38 ?_
    refine lv_aload_n hx hb dX1_giveBack_41 rfl (lv_at hl 0 rfl) ?_
    refine lv_aload_n hx hb dX1_giveBack_42 rfl (lv_at hl 0 rfl) ?_
    refine va_get (D := (dC, dI)) (ci := 2) (v := .int (nI (n 7))) (C := RX1) (T := TX1) (N := 5) hx hb hts hinX1 hown hK hP 1 rfl rfl 4 (by decide) (hts (.fieldLink RX1 22 "RenameRows$Names" "free" "I") (by decide +kernel)) (fun _ h9 => h9) rfl dX1_giveBack_43 ?_
    refine W.callR (W.runV (As := [.int (nI (n 7))]) (rest := [.ref (a 9)]) ⟨hx, hb, hml, hown, hts⟩ (c_X1_slotOf l dC dI cs a n (uf f 7 (upd (f 7) q ((f 7 q) - nI 1))) (n 7) hB (by omega)) (cwV 1 hts gX1_giveBack_X1_slotOf rfl rfl rfl (by decide +kernel) ⟨Nat.le_of_ble_eq_true rfl, Nat.le_of_ble_eq_true rfl⟩) (rd_preV (q := (RX1, TX1, 5)) hP hK 1 rfl rfl) rfl rfl hl.1 rfl (lv_room (Nat.le_of_ble_eq_true rfl)) dX1_giveBack_46 ⟨Nat.zero_le _, Nat.zero_le _⟩) ?_
    refine W.eq (g2 := F0 m 49 ls (.int (nI (x_slot n (n 7))) :: [.ref (a 9)])) rfl ?_
    have k_4 := x_slot_lt (n := n) (k := (n 7)) (by omega) (by omega)
    refine lv_iload_n hx hb dX1_giveBack_49 rfl (lv_at hl 1 rfl) ?_
    refine ar_st (D := (dC, dI)) (n := n 1) (f := f 9) hx hb hK hP hD hS 9 0 rfl rfl (by omega) (by omega) dX1_giveBack_50 (fun H locs hP hD hS => ?_)
    have hP : va_P (dC, dI) vwCl (wX cs a n (uf (uf f 7 (upd (f 7) q ((f 7 q) - nI 1))) 9 (upd (f 9) (x_slot n (n 7)) (nI q)))) H := hP
    have hD : va_D A (wX cs a n (uf (uf f 7 (upd (f 7) q ((f 7 q) - nI 1))) 9 (upd (f 9) (x_slot n (n 7)) (nI q)))) := hD
    refine lv_aload_n hx hb dX1_giveBack_51 rfl (lv_at hl 0 rfl) ?_
    refine lv_dup hx hb dX1_giveBack_52 rfl ?_
    refine va_get (D := (dC, dI)) (ci := 2) (v := .int (nI (n 7))) (C := RX1) (T := TX1) (N := 5) hx hb hts hinX1 hown hK hP 1 rfl rfl 4 (by decide) (hts (.fieldLink RX1 22 "RenameRows$Names" "free" "I") (by decide +kernel)) (fun _ h9 => h9) rfl dX1_giveBack_53 ?_
    refine lv_iconst (v := nI 1) hx hb dX1_giveBack_56 (by decide) ?_
    refine lv_iadd hx hb dX1_giveBack_57 ?_
    refine tp_eq (nI_add (n 7) 1) ?_
    refine va_put (D := (dC, dI)) (ci := 2) (v := .int (nI ((n 7) + 1))) (ty := .int) (C := RX1) (T := TX1) (N := 5) hx hb hts hinX1 tyX1 tyX1_ok nmX1 hown hK hP hD hS 1 rfl rfl 4 (by decide) (hts (.fieldLink RX1 22 "RenameRows$Names" "free" "I") (by decide +kernel)) (fun _ h9 => h9) rfl (by decide +kernel) rfl rfl (Nat.le_of_ble_eq_true rfl) dX1_giveBack_58 (fun H locs hP hD hS => ?_)
    have hP : va_P (dC, dI) vwCl (wX cs a (un n 7 ((n 7) + 1)) (uf (uf f 7 (upd (f 7) q ((f 7 q) - nI 1))) 9 (upd (f 9) (x_slot n (n 7)) (nI q)))) H := hP
    have hD : va_D A (wX cs a (un n 7 ((n 7) + 1)) (uf (uf f 7 (upd (f 7) q ((f 7 q) - nI 1))) 9 (upd (f 9) (x_slot n (n 7)) (nI q)))) := hD
    have hP : va_P (dC, dI) vwCl (wX cs a (x_gN n f q) (x_gF n f q)) H := by
      have e9 : (wX cs a (un n 7 ((n 7) + 1)) (uf (uf f 7 (upd (f 7) q ((f 7 q) - nI 1))) 9 (upd (f 9) (x_slot n (n 7)) (nI q)))) = (wX cs a (x_gN n f q) (x_gF n f q)) := by simp [x_gN, x_gF, c_3]
      rw [← e9]; exact hP
    exact wr_vret hx hb hr hlocks hP hS dX1_giveBack_61

set_option maxHeartbeats 4000000 in
set_option maxRecDepth 100000 in
theorem c_X1_makeReady (l : Launch) (dC : Nat → ClassId) (dI : Nat → Nat → Nat) (cs : ClassId × ClassId) (a n : Nat → Nat) (f : Nat → Nat → Int32) (sz : Nat) (x : Int32) (hB : x_bd n)  : Met l yX1_makeReady wsX1_makeReady ({ frames := 1, cells := 0, slots := 0, locals := 21 }) (wrPc (dC, dI) vwCl (wX cs a n f) (tyl cs) sz [.ref (a 1), .int x]) (wrQ (dC, dI) vwCl (wX cs a n (x_mrF n f x)) none (va_A (wX cs a n f) sz)) 0 0 (va_A (wX cs a n f) sz) := by
  refine wr_of (cc := cX1_makeReady) (maxL := 2) (ret := none) (own := RX1) (by decide) rfl rfl (Nat.le_of_ble_eq_true rfl) ?_
  intro p e s m below meth c A hsz hAe hx hb hr hml hts hown hlocks hP hK hD hA hS ls hl
  have hl : lv_has ls 2 [(0, .ref (a 1)), (1, .int x)] := hl
  have hinX1 : ∀ w ∈ wsX10, w ∈ wsX1_makeReady := by decide +kernel
  obtain ⟨B1, B2, B3, B4, B5, B6, B7, B8, B9, B10, B11, B12, B13, B14, B15⟩ := id hB
  refine lv_aload_n hx hb dX1_makeReady_0 rfl (lv_at hl 0 rfl) ?_
  refine lv_iload_n hx hb dX1_makeReady_1 rfl (lv_at hl 1 rfl) ?_
  refine W.callR (W.runV (As := [.int x]) (rest := []) ⟨hx, hb, hml, hown, hts⟩ (c_X1_isName l dC dI cs a n f x hB) (cwV 1 hts gX1_makeReady_X1_isName rfl rfl rfl (by decide +kernel) ⟨Nat.le_of_ble_eq_true rfl, Nat.le_of_ble_eq_true rfl⟩) (rd_preV (q := (RX1, TX1, 5)) hP hK 1 rfl rfl) rfl rfl hl.1 rfl (lv_room (Nat.le_of_ble_eq_true rfl)) dX1_makeReady_2 ⟨Nat.zero_le _, Nat.zero_le _⟩) ?_
  refine W.eq (g2 := F0 m 5 ls (.int (b2i (inB x (n 1))) :: [])) rfl ?_
  refine lv_if_eq (tgt := 15) hx hb dX1_makeReady_5 (by decide) (fun c_1 => ?_) (fun c_1 => ?_)
  · have c_1 : inB x (n 1) = false := b2i_f c_1
    have hP : va_P (dC, dI) vwCl (wX cs a n (x_mrF n f x)) s.heap := by
      have e9 : (wX cs a n f) = (wX cs a n (x_mrF n f x)) := by first | (simp [x_mrF, c_1]; done) | (simp [nI_0, x_mrF, c_1]; done) | (simp [x_mrF, c_1]; omega)
      rw [← e9]; exact hP
    exact wr_vret hx hb hr hlocks hP hS dX1_makeReady_15
  · have c_1 : inB x (n 1) = true := b2i_t c_1
    obtain ⟨jx, hjx, rfl⟩ := inB_t c_1 (by omega)
    refine lv_aload_n hx hb dX1_makeReady_8 rfl (lv_at hl 0 rfl) ?_
    refine va_get (D := (dC, dI)) (ci := 2) (v := .ref (a 8)) (C := RX1) (T := TX1) (N := 5) hx hb hts hinX1 hown hK hP 1 rfl rfl 1 (by decide) (hts (.fieldLink RX1 15 "RenameRows$Names" "ready" "[Z") (by decide +kernel)) (fun _ h9 => h9) rfl dX1_makeReady_9 ?_
    refine lv_iload_n hx hb dX1_makeReady_12 rfl (lv_at hl 1 rfl) ?_
    refine lv_iconst (v := nI 1) hx hb dX1_makeReady_13 (by decide) ?_
    refine ar_zst (D := (dC, dI)) (n := n 1) (f := f 8) hx hb hK hP hD hS 8 1 rfl rfl (y := nI 1) (by decide) (by omega) (by omega) dX1_makeReady_14 (fun H locs hP hD hS => ?_)
    have hP : va_P (dC, dI) vwCl (wX cs a n (uf f 8 (upd (f 8) jx (nI 1)))) H := hP
    have hD : va_D A (wX cs a n (uf f 8 (upd (f 8) jx (nI 1)))) := hD
    have hP : va_P (dC, dI) vwCl (wX cs a n (x_mrF n f (nI jx))) H := by
      have e9 : (wX cs a n (uf f 8 (upd (f 8) jx (nI 1)))) = (wX cs a n (x_mrF n f (nI jx))) := by first | (simp [x_mrF, c_1, cl32_nI (show jx < 2 ^ 31 by omega)]; done) | (simp [nI_0, x_mrF, c_1, cl32_nI (show jx < 2 ^ 31 by omega)]; done) | (simp [x_mrF, c_1, cl32_nI (show jx < 2 ^ 31 by omega)]; omega)
      rw [← e9]; exact hP
    exact wr_vret hx hb hr hlocks hP hS dX1_makeReady_15
end
section
set_option maxHeartbeats 4000000 in
set_option maxRecDepth 100000 in
theorem c_X0_takeLowest (l : Launch) (dC : Nat → ClassId) (dI : Nat → Nat → Nat) (cs : ClassId × ClassId) (a n : Nat → Nat) (f : Nat → Nat → Int32) (sz : Nat) (r : Nat) (hB : x_bd n)  : Met l yX0_takeLowest wsX0_takeLowest ({ frames := 2, cells := 0, slots := 0, locals := 43 }) (wrPc (dC, dI) vwCl (wX cs a n f) (tyl cs) sz [.ref (a 3), .int (nI r)]) (wrQ (dC, dI) vwCl (wX cs a (x_loN n f) (x_loF n f r)) (some (.int (x_lo n f))) (va_A (wX cs a n f) sz)) 0 0 (va_A (wX cs a n f) sz) := by
  refine wr_of (cc := cX0_takeLowest) (maxL := 3) (ret := (some .int)) (own := RX0) (by decide) rfl rfl (Nat.le_of_ble_eq_true rfl) ?_
  intro p e s m below meth c A hsz hAe hx hb hr hml hts hown hlocks hP hK hD hA hS ls hl
  have hl : lv_has ls 3 [(0, .ref (a 3)), (1, .int (nI r))] := hl
  have hinX0 : ∀ w ∈ wsX00, w ∈ wsX0_takeLowest := by decide +kernel
  obtain ⟨B1, B2, B3, B4, B5, B6, B7, B8, B9, B10, B11, B12, B13, B14, B15⟩ := id hB
  refine lv_iconst (v := nI 0) hx hb dX0_takeLowest_0 (by decide) ?_
  refine lv_istore_n (lv' := [(2, .int (nI 0)), (0, .ref (a 3)), (1, .int (nI r))]) hx hb dX0_takeLowest_1 rfl hl (by decide) rfl (fun ls hl => ?_)
  have key : ∀ (k t : Nat), t + k = 8 → x_lo n f = (if n 11 < 8 then x_lw n f k t else -1) → ∀ (H : Heap) (locs : List Loc), va_P (dC, dI) vwCl (wX cs a n f) H → va_D A (wX cs a n f) → va_S A s.heap H locs → ∀ ls : Array Slot, lv_has ls 3 [(2, .int (nI t)), (0, .ref (a 3)), (1, .int (nI r))] → W p l e ({ frames := 2, cells := 0, slots := 0, locals := 43 } : Room) s m ([.ref (a 3), .int (nI r)] : List Value).toArray below meth c H locs 0 0 (MQ below (wrQ (dC, dI) vwCl (wX cs a (x_loN n f) (x_loF n f r)) (some (.int (x_lo n f))) A) ([.ref (a 3), .int (nI r)] : List Value).toArray s 0 0 A) (F0 m 2 ls []) := by
    intro k
    induction k with
    | zero =>
      intro t ht hs H locs hP hD hS ls hl
      refine lv_iload_n hx hb dX0_takeLowest_2 rfl (lv_at hl 0 rfl) ?_
      refine lv_bipush (v := nI 8) hx hb dX0_takeLowest_3 (by decide) ?_
      refine lv_icmp_ge (tgt := 60) hx hb dX0_takeLowest_5 (by decide) (fun c_1 => ?_) (fun c_1 => absurd (nI_le (by omega) (by omega)) c_1)
      have c_1 : 8 ≤ t := (nI_leI (by omega) (by omega)).mp c_1
      refine lv_iconst (v := (-1)) hx hb dX0_takeLowest_60 (by decide) ?_
      have hP : va_P (dC, dI) vwCl (wX cs a (x_loN n f) (x_loF n f r)) H := by
        have e9 : (wX cs a n f) = (wX cs a (x_loN n f) (x_loF n f r)) := by first | (have e7 : x_lo n f = nI t := (by rw [hs]; simp [x_lw, B16, of_decide_eq_true c_1]); simp [x_loN, x_loF, e7, nI_m1 (show t < 2 ^ 31 by omega), cl32_nI (show t < 2 ^ 31 by omega)]; done) | (have e7 : x_lo n f = -1 := (by rw [hs]; simp [x_lw]; try omega); simp [x_loN, x_loF, e7]; done)
        rw [← e9]; exact hP
      refine tp_eq (show _ = x_lo n f by first | (have e7 : x_lo n f = nI t := (by rw [hs]; simp [x_lw, B16, of_decide_eq_true c_1]); simp [x_loN, x_loF, e7, nI_m1 (show t < 2 ^ 31 by omega), cl32_nI (show t < 2 ^ 31 by omega)]; done) | (have e7 : x_lo n f = -1 := (by rw [hs]; simp [x_lw]; try omega); simp [x_loN, x_loF, e7]; done)) ?_
      exact wr_iret hx hb hr hlocks hP hS dX0_takeLowest_61
    | succ k ih =>
      intro t ht hs H locs hP hD hS ls hl
      refine lv_iload_n hx hb dX0_takeLowest_2 rfl (lv_at hl 0 rfl) ?_
      refine lv_bipush (v := nI 8) hx hb dX0_takeLowest_3 (by decide) ?_
      refine lv_icmp_ge (tgt := 60) hx hb dX0_takeLowest_5 (by decide) (fun c_2 => absurd ((nI_leI (by omega) (by omega)).mp c_2) (by omega)) (fun c_2 => ?_)
      have c_2 : ¬ 8 ≤ t := fun q => c_2 ((nI_leI (by omega) (by omega)).mpr q)
      refine lv_aload_n hx hb dX0_takeLowest_8 rfl (lv_at hl 1 rfl) ?_
      refine va_get (D := (dC, dI)) (ci := 1) (v := .int (nI (n 11))) (C := RX0) (T := TX0) (N := 3) hx hb hts hinX0 hown hK hP 3 rfl rfl 2 (by decide) (hts (.fieldLink RX0 22 "RenameRows$Marks" "taken" "I") (by decide +kernel)) (fun _ h9 => h9) rfl dX0_takeLowest_9 ?_
      refine lv_bipush (v := nI 8) hx hb dX0_takeLowest_12 (by decide) ?_
      refine lv_icmp_ge (tgt := 60) hx hb dX0_takeLowest_14 (by decide) (fun c_3 => ?_) (fun c_3 => ?_)
      · have c_3 : 8 ≤ (n 11) := (nI_leI (by omega) (by omega)).mp c_3
        refine lv_iconst (v := (-1)) hx hb dX0_takeLowest_60 (by decide) ?_
        have hP : va_P (dC, dI) vwCl (wX cs a (x_loN n f) (x_loF n f r)) H := by
          have e9 : (wX cs a n f) = (wX cs a (x_loN n f) (x_loF n f r)) := by first | (have e7 : x_lo n f = nI t := (by rw [hs]; simp [x_lw, B16, of_decide_eq_true c_3]); simp [x_loN, x_loF, e7, nI_m1 (show t < 2 ^ 31 by omega), cl32_nI (show t < 2 ^ 31 by omega)]; done) | (have e7 : x_lo n f = -1 := (by rw [hs]; simp [x_lw]; try omega); simp [x_loN, x_loF, e7]; done)
          rw [← e9]; exact hP
        refine tp_eq (show _ = x_lo n f by first | (have e7 : x_lo n f = nI t := (by rw [hs]; simp [x_lw, B16, of_decide_eq_true c_3]); simp [x_loN, x_loF, e7, nI_m1 (show t < 2 ^ 31 by omega), cl32_nI (show t < 2 ^ 31 by omega)]; done) | (have e7 : x_lo n f = -1 := (by rw [hs]; simp [x_lw]; try omega); simp [x_loN, x_loF, e7]; done)) ?_
        exact wr_iret hx hb hr hlocks hP hS dX0_takeLowest_61
      · have c_3 : ¬ 8 ≤ (n 11) := fun q => c_3 ((nI_leI (by omega) (by omega)).mpr q)
        have B16 : n 11 < 8 := by omega
        refine lv_aload_n hx hb dX0_takeLowest_17 rfl (lv_at hl 1 rfl) ?_
        refine lv_iload_n hx hb dX0_takeLowest_18 rfl (lv_at hl 0 rfl) ?_
        refine W.callR (W.runV (As := [.int (nI t)]) (rest := []) ⟨hx, hb, hml, hown, hts⟩ (c_X0_isFree l dC dI cs a n f (nI t) hB) (cwV 1 hts gX0_takeLowest_X0_isFree rfl rfl rfl (by decide +kernel) ⟨Nat.le_of_ble_eq_true rfl, Nat.le_of_ble_eq_true rfl⟩) (rd_preV (q := (RX0, TX0, 3)) hP hK 3 rfl rfl) rfl rfl hl.1 rfl (lv_room (Nat.le_of_ble_eq_true rfl)) dX0_takeLowest_19 ⟨Nat.zero_le _, Nat.zero_le _⟩) ?_
        refine W.eq (g2 := F0 m 22 ls (.int (b2i (decide (x_turn n f (nI t) = -1))) :: [])) rfl ?_
        refine lv_if_eq (tgt := 54) hx hb dX0_takeLowest_22 (by decide) (fun c_4 => ?_) (fun c_4 => ?_)
        · have c_4 : decide (x_turn n f (nI t) = -1) = false := b2i_f c_4
          refine lv_iinc (v := nI (t + 1)) (lv' := [(2, .int (nI (t + 1))), (0, .ref (a 3)), (1, .int (nI r))]) hx hb dX0_takeLowest_54 hl (k := 0) rfl (nI_succ t).symm (by decide) rfl (fun ls hl => ?_)
          refine lv_goto (tgt := 2) hx hb dX0_takeLowest_57 (by decide) ?_
          exact ih (t + 1) (by omega) (by rw [hs]; simp [x_lw, of_decide_eq_false c_4]) H locs hP hD hS ls (lv_sub hl [0, 1, 2] rfl)
        · have c_4 : decide (x_turn n f (nI t) = -1) = true := b2i_t c_4
          refine lv_aload_n hx hb dX0_takeLowest_25 rfl (lv_at hl 1 rfl) ?_
          refine va_get (D := (dC, dI)) (ci := 1) (v := .ref (a 17)) (C := RX0) (T := TX0) (N := 3) hx hb hts hinX0 hown hK hP 3 rfl rfl 0 (by decide) (hts (.fieldLink RX0 9 "RenameRows$Marks" "before" "[I") (by decide +kernel)) (fun _ h9 => h9) rfl dX0_takeLowest_26 ?_
          refine lv_iload_n hx hb dX0_takeLowest_29 rfl (lv_at hl 0 rfl) ?_
          refine lv_iload_n hx hb dX0_takeLowest_30 rfl (lv_at hl 2 rfl) ?_
          refine ar_st (D := (dC, dI)) (n := 8) (f := f 17) hx hb hK hP hD hS 17 0 rfl rfl (by omega) (by omega) dX0_takeLowest_31 (fun H locs hP hD hS => ?_)
          have hP : va_P (dC, dI) vwCl (wX cs a n (uf f 17 (upd (f 17) t (nI r)))) H := hP
          have hD : va_D A (wX cs a n (uf f 17 (upd (f 17) t (nI r)))) := hD
          refine lv_aload_n hx hb dX0_takeLowest_32 rfl (lv_at hl 1 rfl) ?_
          refine va_get (D := (dC, dI)) (ci := 1) (v := .ref (a 18)) (C := RX0) (T := TX0) (N := 3) hx hb hts hinX0 hown hK hP 3 rfl rfl 1 (by decide) (hts (.fieldLink RX0 15 "RenameRows$Marks" "byTurn" "[I") (by decide +kernel)) (fun _ h9 => h9) rfl dX0_takeLowest_33 ?_
          refine lv_aload_n hx hb dX0_takeLowest_36 rfl (lv_at hl 1 rfl) ?_
          refine va_get (D := (dC, dI)) (ci := 1) (v := .int (nI (n 11))) (C := RX0) (T := TX0) (N := 3) hx hb hts hinX0 hown hK hP 3 rfl rfl 2 (by decide) (hts (.fieldLink RX0 22 "RenameRows$Marks" "taken" "I") (by decide +kernel)) (fun _ h9 => h9) rfl dX0_takeLowest_37 ?_
          refine lv_iload_n hx hb dX0_takeLowest_40 rfl (lv_at hl 0 rfl) ?_
          refine ar_st (D := (dC, dI)) (n := 8) (f := f 18) hx hb hK hP hD hS 18 0 rfl rfl (by omega) (by omega) dX0_takeLowest_41 (fun H locs hP hD hS => ?_)
          have hP : va_P (dC, dI) vwCl (wX cs a n (uf (uf f 17 (upd (f 17) t (nI r))) 18 (upd (f 18) (n 11) (nI t)))) H := hP
          have hD : va_D A (wX cs a n (uf (uf f 17 (upd (f 17) t (nI r))) 18 (upd (f 18) (n 11) (nI t)))) := hD
          refine lv_aload_n hx hb dX0_takeLowest_42 rfl (lv_at hl 1 rfl) ?_
          refine lv_dup hx hb dX0_takeLowest_43 rfl ?_
          refine va_get (D := (dC, dI)) (ci := 1) (v := .int (nI (n 11))) (C := RX0) (T := TX0) (N := 3) hx hb hts hinX0 hown hK hP 3 rfl rfl 2 (by decide) (hts (.fieldLink RX0 22 "RenameRows$Marks" "taken" "I") (by decide +kernel)) (fun _ h9 => h9) rfl dX0_takeLowest_44 ?_
          refine lv_iconst (v := nI 1) hx hb dX0_takeLowest_47 (by decide) ?_
          refine lv_iadd hx hb dX0_takeLowest_48 ?_
          refine tp_eq (nI_add (n 11) 1) ?_
          refine va_put (D := (dC, dI)) (ci := 1) (v := .int (nI ((n 11) + 1))) (ty := .int) (C := RX0) (T := TX0) (N := 3) hx hb hts hinX0 tyX0 tyX0_ok nmX0 hown hK hP hD hS 3 rfl rfl 2 (by decide) (hts (.fieldLink RX0 22 "RenameRows$Marks" "taken" "I") (by decide +kernel)) (fun _ h9 => h9) rfl (by decide +kernel) rfl rfl (Nat.le_of_ble_eq_true rfl) dX0_takeLowest_49 (fun H locs hP hD hS => ?_)
          have hP : va_P (dC, dI) vwCl (wX cs a (un n 11 ((n 11) + 1)) (uf (uf f 17 (upd (f 17) t (nI r))) 18 (upd (f 18) (n 11) (nI t)))) H := hP
          have hD : va_D A (wX cs a (un n 11 ((n 11) + 1)) (uf (uf f 17 (upd (f 17) t (nI r))) 18 (upd (f 18) (n 11) (nI t)))) := hD
          refine lv_iload_n hx hb dX0_takeLowest_52 rfl (lv_at hl 0 rfl) ?_
          have hP : va_P (dC, dI) vwCl (wX cs a (x_loN n f) (x_loF n f r)) H := by
            have e9 : (wX cs a (un n 11 ((n 11) + 1)) (uf (uf f 17 (upd (f 17) t (nI r))) 18 (upd (f 18) (n 11) (nI t)))) = (wX cs a (x_loN n f) (x_loF n f r)) := by first | (have e7 : x_lo n f = nI t := (by rw [hs]; simp [x_lw, B16, of_decide_eq_true c_4]); simp [x_loN, x_loF, e7, nI_m1 (show t < 2 ^ 31 by omega), cl32_nI (show t < 2 ^ 31 by omega)]; done) | (have e7 : x_lo n f = -1 := (by rw [hs]; simp [x_lw]; try omega); simp [x_loN, x_loF, e7]; done)
            rw [← e9]; exact hP
          refine tp_eq (show _ = x_lo n f by first | (have e7 : x_lo n f = nI t := (by rw [hs]; simp [x_lw, B16, of_decide_eq_true c_4]); simp [x_loN, x_loF, e7, nI_m1 (show t < 2 ^ 31 by omega), cl32_nI (show t < 2 ^ 31 by omega)]; done) | (have e7 : x_lo n f = -1 := (by rw [hs]; simp [x_lw]; try omega); simp [x_loN, x_loF, e7]; done)) ?_
          exact wr_iret hx hb hr hlocks hP hS dX0_takeLowest_53
  exact key 8 0 (by omega) rfl _ _ hP hD hS ls (lv_sub hl [0, 1, 2] rfl)

set_option maxHeartbeats 4000000 in
set_option maxRecDepth 100000 in
theorem c_X0_release (l : Launch) (dC : Nat → ClassId) (dI : Nat → Nat → Nat) (cs : ClassId × ClassId) (a n : Nat → Nat) (f : Nat → Nat → Int32) (sz : Nat) (x : Int32) (t : Nat) (ht : x_turn n f x = nI t) (hB : x_bd n) (h1 : t < n 11)  : Met l yX0_release wsX0_release ({ frames := 1, cells := 0, slots := 0, locals := 22 }) (wrPc (dC, dI) vwCl (wX cs a n f) (tyl cs) sz [.ref (a 3), .int x]) (wrQ (dC, dI) vwCl (wX cs a (un n 11 ((n 11) - 1)) (uf f 18 (x_sl (f 18) t (n 11 - 1)))) none (va_A (wX cs a n f) sz)) 0 0 (va_A (wX cs a n f) sz) := by
  refine wr_of (cc := cX0_release) (maxL := 4) (ret := none) (own := RX0) (by decide) rfl rfl (Nat.le_of_ble_eq_true rfl) ?_
  intro p e s m below meth c A hsz hAe hx hb hr hml hts hown hlocks hP hK hD hA hS ls hl
  have hl : lv_has ls 4 [(0, .ref (a 3)), (1, .int x)] := hl
  have hinX0 : ∀ w ∈ wsX00, w ∈ wsX0_release := by decide +kernel
  obtain ⟨B1, B2, B3, B4, B5, B6, B7, B8, B9, B10, B11, B12, B13, B14, B15⟩ := id hB
  refine lv_aload_n hx hb dX0_release_0 rfl (lv_at hl 0 rfl) ?_
  refine lv_iload_n hx hb dX0_release_1 rfl (lv_at hl 1 rfl) ?_
  refine W.callR (W.runV (As := [.int x]) (rest := []) ⟨hx, hb, hml, hown, hts⟩ (c_X0_turnOf l dC dI cs a n f x hB) (cwV 1 hts gX0_release_X0_turnOf rfl rfl rfl (by decide +kernel) ⟨Nat.le_of_ble_eq_true rfl, Nat.le_of_ble_eq_true rfl⟩) (rd_preV (q := (RX0, TX0, 3)) hP hK 3 rfl rfl) rfl rfl hl.1 rfl (lv_room (Nat.le_of_ble_eq_true rfl)) dX0_release_2 ⟨Nat.zero_le _, Nat.zero_le _⟩) ?_
  refine W.eq (g2 := F0 m 5 ls (.int (x_turn n f x) :: [])) rfl ?_
  refine tp_eq ht ?_
  refine lv_istore_n (lv' := [(2, .int (nI t)), (0, .ref (a 3)), (1, .int x)]) hx hb dX0_release_5 rfl hl (by decide) rfl (fun ls hl => ?_)
  refine lv_iload_n hx hb dX0_release_6 rfl (lv_at hl 0 rfl) ?_
  refine lv_iconst (v := (-1)) hx hb dX0_release_7 (by decide) ?_
  refine lv_icmp_ne (tgt := 12) hx hb dX0_release_8 (by decide) (fun c_1 => ?_) (fun c_1 => absurd c_1 (nI_m1 (by omega)))
  refine lv_iload_n hx hb dX0_release_12 rfl (lv_at hl 0 rfl) ?_
  refine lv_istore_n (lv' := [(3, .int (nI t)), (2, .int (nI t)), (0, .ref (a 3)), (1, .int x)]) hx hb dX0_release_13 rfl hl (by decide) rfl (fun ls hl => ?_)
  have hP : va_P (dC, dI) vwCl (wX cs a n (uf f 18 (x_sl (f 18) t t))) s.heap := by
    rw [x_sl_0]; exact hP
  have hD : va_D A (wX cs a n (uf f 18 (x_sl (f 18) t t))) := hD.same rfl
  have key : ∀ (k u : Nat), u + k = n 11 - 1 → t ≤ u → ∀ (H : Heap) (locs : List Loc), va_P (dC, dI) vwCl (wX cs a n (uf f 18 (x_sl (f 18) t u))) H → va_D A (wX cs a n (uf f 18 (x_sl (f 18) t u))) → va_S A s.heap H locs → ∀ ls : Array Slot, lv_has ls 4 [(3, .int (nI u)), (2, .int (nI t)), (0, .ref (a 3)), (1, .int x)] → W p l e ({ frames := 1, cells := 0, slots := 0, locals := 22 } : Room) s m ([.ref (a 3), .int x] : List Value).toArray below meth c H locs 0 0 (MQ below (wrQ (dC, dI) vwCl (wX cs a (un n 11 ((n 11) - 1)) (uf f 18 (x_sl (f 18) t (n 11 - 1)))) none A) ([.ref (a 3), .int x] : List Value).toArray s 0 0 A) (F0 m 14 ls []) := by
    intro k
    induction k with
    | zero =>
      intro u hu hu2 H locs hP hD hS ls hl
      refine lv_iload_n hx hb dX0_release_14 rfl (lv_at hl 0 rfl) ?_
      refine lv_iconst (v := nI 1) hx hb dX0_release_15 (by decide) ?_
      refine lv_iadd hx hb dX0_release_16 ?_
      refine tp_eq (nI_add u 1) ?_
      refine lv_aload_n hx hb dX0_release_17 rfl (lv_at hl 2 rfl) ?_
      refine va_get (D := (dC, dI)) (ci := 1) (v := .int (nI (n 11))) (C := RX0) (T := TX0) (N := 3) hx hb hts hinX0 hown hK hP 3 rfl rfl 2 (by decide) (hts (.fieldLink RX0 22 "RenameRows$Marks" "taken" "I") (by decide +kernel)) (fun _ h9 => h9) rfl dX0_release_18 ?_
      refine lv_icmp_ge (tgt := 44) hx hb dX0_release_21 (by decide) (fun c_2 => ?_) (fun c_2 => absurd (nI_le (by omega) (by omega)) c_2)
      have c_2 : (n 11) ≤ (u + 1) := (nI_leI (by omega) (by omega)).mp c_2
      have hu3 : u = n 11 - 1 := by omega
      refine lv_aload_n hx hb dX0_release_44 rfl (lv_at hl 2 rfl) ?_
      refine lv_dup hx hb dX0_release_45 rfl ?_
      refine va_get (D := (dC, dI)) (ci := 1) (v := .int (nI (n 11))) (C := RX0) (T := TX0) (N := 3) hx hb hts hinX0 hown hK hP 3 rfl rfl 2 (by decide) (hts (.fieldLink RX0 22 "RenameRows$Marks" "taken" "I") (by decide +kernel)) (fun _ h9 => h9) rfl dX0_release_46 ?_
      refine lv_iconst (v := nI 1) hx hb dX0_release_49 (by decide) ?_
      refine lv_isub hx hb dX0_release_50 ?_
      refine tp_eq (pk_sub (by omega)) ?_
      refine va_put (D := (dC, dI)) (ci := 1) (v := .int (nI ((n 11) - 1))) (ty := .int) (C := RX0) (T := TX0) (N := 3) hx hb hts hinX0 tyX0 tyX0_ok nmX0 hown hK hP hD hS 3 rfl rfl 2 (by decide) (hts (.fieldLink RX0 22 "RenameRows$Marks" "taken" "I") (by decide +kernel)) (fun _ h9 => h9) rfl (by decide +kernel) rfl rfl (Nat.le_of_ble_eq_true rfl) dX0_release_51 (fun H locs hP hD hS => ?_)
      have hP : va_P (dC, dI) vwCl (wX cs a (un n 11 ((n 11) - 1)) (uf f 18 (x_sl (f 18) t u))) H := hP
      have hD : va_D A (wX cs a (un n 11 ((n 11) - 1)) (uf f 18 (x_sl (f 18) t u))) := hD
      have hP : va_P (dC, dI) vwCl (wX cs a (un n 11 ((n 11) - 1)) (uf f 18 (x_sl (f 18) t (n 11 - 1)))) H := by
        have e9 : (wX cs a (un n 11 ((n 11) - 1)) (uf f 18 (x_sl (f 18) t u))) = (wX cs a (un n 11 ((n 11) - 1)) (uf f 18 (x_sl (f 18) t (n 11 - 1)))) := by rw [hu3]
        rw [← e9]; exact hP
      exact wr_vret hx hb hr hlocks hP hS dX0_release_54
    | succ k ih =>
      intro u hu hu2 H locs hP hD hS ls hl
      refine lv_iload_n hx hb dX0_release_14 rfl (lv_at hl 0 rfl) ?_
      refine lv_iconst (v := nI 1) hx hb dX0_release_15 (by decide) ?_
      refine lv_iadd hx hb dX0_release_16 ?_
      refine tp_eq (nI_add u 1) ?_
      refine lv_aload_n hx hb dX0_release_17 rfl (lv_at hl 2 rfl) ?_
      refine va_get (D := (dC, dI)) (ci := 1) (v := .int (nI (n 11))) (C := RX0) (T := TX0) (N := 3) hx hb hts hinX0 hown hK hP 3 rfl rfl 2 (by decide) (hts (.fieldLink RX0 22 "RenameRows$Marks" "taken" "I") (by decide +kernel)) (fun _ h9 => h9) rfl dX0_release_18 ?_
      refine lv_icmp_ge (tgt := 44) hx hb dX0_release_21 (by decide) (fun c_3 => absurd ((nI_leI (by omega) (by omega)).mp c_3) (by omega)) (fun c_3 => ?_)
      have c_3 : ¬ (n 11) ≤ (u + 1) := fun q => c_3 ((nI_leI (by omega) (by omega)).mpr q)
      refine lv_aload_n hx hb dX0_release_24 rfl (lv_at hl 2 rfl) ?_
      refine va_get (D := (dC, dI)) (ci := 1) (v := .ref (a 18)) (C := RX0) (T := TX0) (N := 3) hx hb hts hinX0 hown hK hP 3 rfl rfl 1 (by decide) (hts (.fieldLink RX0 15 "RenameRows$Marks" "byTurn" "[I") (by decide +kernel)) (fun _ h9 => h9) rfl dX0_release_25 ?_
      refine lv_iload_n hx hb dX0_release_28 rfl (lv_at hl 0 rfl) ?_
      refine lv_aload_n hx hb dX0_release_29 rfl (lv_at hl 2 rfl) ?_
      refine va_get (D := (dC, dI)) (ci := 1) (v := .ref (a 18)) (C := RX0) (T := TX0) (N := 3) hx hb hts hinX0 hown hK hP 3 rfl rfl 1 (by decide) (hts (.fieldLink RX0 15 "RenameRows$Marks" "byTurn" "[I") (by decide +kernel)) (fun _ h9 => h9) rfl dX0_release_30 ?_
      refine lv_iload_n hx hb dX0_release_33 rfl (lv_at hl 0 rfl) ?_
      refine lv_iconst (v := nI 1) hx hb dX0_release_34 (by decide) ?_
      refine lv_iadd hx hb dX0_release_35 ?_
      refine tp_eq (nI_add u 1) ?_
      refine ar_ld (D := (dC, dI)) (n := 8) (f := (x_sl (f 18) t u)) hx hb hK hP 18 0 rfl rfl (by omega) (by omega) dX0_release_36 ?_
      refine ar_st (D := (dC, dI)) (n := 8) (f := (x_sl (f 18) t u)) hx hb hK hP hD hS 18 0 rfl rfl (by omega) (by omega) dX0_release_37 (fun H locs hP hD hS => ?_)
      have hP : va_P (dC, dI) vwCl (wX cs a n (uf (uf f 18 (x_sl (f 18) t u)) 18 (upd (x_sl (f 18) t u) u ((x_sl (f 18) t u) (u + 1))))) H := hP
      have hD : va_D A (wX cs a n (uf (uf f 18 (x_sl (f 18) t u)) 18 (upd (x_sl (f 18) t u) u ((x_sl (f 18) t u) (u + 1))))) := hD
      have hP : va_P (dC, dI) vwCl (wX cs a n (uf f 18 (x_sl (f 18) t (u + 1)))) H := by
        rw [← x_sl_s (f 18) (show t ≤ u by omega)]; exact hP
      have hD : va_D A (wX cs a n (uf f 18 (x_sl (f 18) t (u + 1)))) := hD.same rfl
      refine lv_iinc (v := nI (u + 1)) (lv' := [(3, .int (nI (u + 1))), (2, .int (nI t)), (0, .ref (a 3)), (1, .int x)]) hx hb dX0_release_38 hl (k := 0) rfl (nI_succ u).symm (by decide) rfl (fun ls hl => ?_)
      refine lv_goto (tgt := 14) hx hb dX0_release_41 (by decide) ?_
      exact ih (u + 1) (by omega) (by omega) H locs hP hD hS ls (lv_sub hl [0, 1, 2, 3] rfl)
  exact key (n 11 - 1 - t) t (by omega) (by omega) _ _ hP hD hS ls (lv_sub hl [0, 1, 2, 3] rfl)

set_option maxHeartbeats 4000000 in
set_option maxRecDepth 100000 in
theorem c_X0_releaseFrom (l : Launch) (dC : Nat → ClassId) (dI : Nat → Nat → Nat) (cs : ClassId × ClassId) (a n : Nat → Nat) (f : Nat → Nat → Int32) (sz : Nat) (x : Int32) (t : Nat) (ht : x_turn n f x = nI t) (hB : x_bd n) (h1 : t < n 11)  : Met l yX0_releaseFrom wsX0_releaseFrom ({ frames := 1, cells := 0, slots := 0, locals := 22 }) (wrPc (dC, dI) vwCl (wX cs a n f) (tyl cs) sz [.ref (a 3), .int x]) (wrQ (dC, dI) vwCl (wX cs a (un n 11 (t)) f) none (va_A (wX cs a n f) sz)) 0 0 (va_A (wX cs a n f) sz) := by
  refine wr_of (cc := cX0_releaseFrom) (maxL := 3) (ret := none) (own := RX0) (by decide) rfl rfl (Nat.le_of_ble_eq_true rfl) ?_
  intro p e s m below meth c A hsz hAe hx hb hr hml hts hown hlocks hP hK hD hA hS ls hl
  have hl : lv_has ls 3 [(0, .ref (a 3)), (1, .int x)] := hl
  have hinX0 : ∀ w ∈ wsX00, w ∈ wsX0_releaseFrom := by decide +kernel
  obtain ⟨B1, B2, B3, B4, B5, B6, B7, B8, B9, B10, B11, B12, B13, B14, B15⟩ := id hB
  refine lv_aload_n hx hb dX0_releaseFrom_0 rfl (lv_at hl 0 rfl) ?_
  refine lv_iload_n hx hb dX0_releaseFrom_1 rfl (lv_at hl 1 rfl) ?_
  refine W.callR (W.runV (As := [.int x]) (rest := []) ⟨hx, hb, hml, hown, hts⟩ (c_X0_turnOf l dC dI cs a n f x hB) (cwV 1 hts gX0_releaseFrom_X0_turnOf rfl rfl rfl (by decide +kernel) ⟨Nat.le_of_ble_eq_true rfl, Nat.le_of_ble_eq_true rfl⟩) (rd_preV (q := (RX0, TX0, 3)) hP hK 3 rfl rfl) rfl rfl hl.1 rfl (lv_room (Nat.le_of_ble_eq_true rfl)) dX0_releaseFrom_2 ⟨Nat.zero_le _, Nat.zero_le _⟩) ?_
  refine W.eq (g2 := F0 m 5 ls (.int (x_turn n f x) :: [])) rfl ?_
  refine tp_eq ht ?_
  refine lv_istore_n (lv' := [(2, .int (nI t)), (0, .ref (a 3)), (1, .int x)]) hx hb dX0_releaseFrom_5 rfl hl (by decide) rfl (fun ls hl => ?_)
  refine lv_iload_n hx hb dX0_releaseFrom_6 rfl (lv_at hl 0 rfl) ?_
  refine lv_iconst (v := (-1)) hx hb dX0_releaseFrom_7 (by decide) ?_
  refine lv_icmp_eq (tgt := 16) hx hb dX0_releaseFrom_8 (by decide) (fun c_1 => absurd c_1 (nI_m1 (by omega))) (fun c_1 => ?_)
  refine lv_aload_n hx hb dX0_releaseFrom_11 rfl (lv_at hl 1 rfl) ?_
  refine lv_iload_n hx hb dX0_releaseFrom_12 rfl (lv_at hl 0 rfl) ?_
  refine va_put (D := (dC, dI)) (ci := 1) (v := .int (nI t)) (ty := .int) (C := RX0) (T := TX0) (N := 3) hx hb hts hinX0 tyX0 tyX0_ok nmX0 hown hK hP hD hS 3 rfl rfl 2 (by decide) (hts (.fieldLink RX0 22 "RenameRows$Marks" "taken" "I") (by decide +kernel)) (fun _ h9 => h9) rfl (by decide +kernel) rfl rfl (Nat.le_of_ble_eq_true rfl) dX0_releaseFrom_13 (fun H locs hP hD hS => ?_)
  have hP : va_P (dC, dI) vwCl (wX cs a (un n 11 (t)) f) H := hP
  have hD : va_D A (wX cs a (un n 11 (t)) f) := hD
  exact wr_vret hx hb hr hlocks hP hS dX0_releaseFrom_16
end
section
/-! my own: what a throw of the class needs, and the contract of a call that throws -/
def mvW (w : Cond) : Bool := goodWord w || (match w with | .castable .. => true | .declares .. => true | _ => false)
theorem mvW_moved {s U : State} (hW : s.WarmedH U.vm) {a a' : Array Value} {w : Cond} (hm : mvW w = true) (hh : w.before a s = true) : w.before a' U = true := by
  by_cases hg : goodWord w = true
  · exact word_at hW (good_of_word hg) hh
  · cases w <;> first
      | exact va_Nw.use rfl (va_Nw.warmD hW (va_Nw.of rfl hh))
      | exact va_Nw.use rfl (va_Nw.warmC hW (va_Nw.of rfl hh))
      | (simp [mvW, hg] at hm; done)
      | (exfalso; revert hm; simp [mvW, hg]; done)
abbrev eA : String := "java/lang/ArrayIndexOutOfBoundsException"
abbrev eS : String := "java/lang/IllegalStateException"
abbrev eG : String := "java/lang/IllegalArgumentException"
abbrev nmA : List String := ["java/lang/IndexOutOfBoundsException", "java/lang/RuntimeException", "java/lang/Exception"]
abbrev nmS : List String := ["java/lang/RuntimeException", "java/lang/Exception"]
def thW (ik ic : Nat) (X : String) (names : List String) : List Cond := Cond.classLink RX3 ik X :: Cond.initialized X :: vx_atS RX3 ic X names
theorem thA_m : ∀ w ∈ thW 52 56 eA nmA, mvW w = true ∧ vx_ot w = true := by decide +kernel
theorem thS_m : ∀ w ∈ thW 100 104 eS nmS, mvW w = true ∧ vx_ot w = true := by decide +kernel
theorem thG_m : ∀ w ∈ thW 105 109 eG nmS, mvW w = true ∧ vx_ot w = true := by decide +kernel
theorem thA_f : Bundle.fit eA = true ∧ ∀ n ∈ nmA, Bundle.fit n = true := by decide +kernel
theorem thS_f : Bundle.fit eS = true ∧ ∀ n ∈ nmS, Bundle.fit n = true := by decide +kernel
theorem thG_f : Bundle.fit eG = true ∧ ∀ n ∈ nmS, Bundle.fit n = true := by decide +kernel
def thT : List (Nat × String) := [(54, "no such register"), (94, "no such place"), (102, "no waiting row there"), (107, "no such port"), (116, "ports are not 1 .. 8"), (124, "no going row there"), (135, "n is below 0"), (160, "no such mark"), (165, "the mark is free"), (188, "no such name"), (193, "no such name in the queue"), (201, "no row is there"), (218, "no such what")]
/-- what the throws of the class rest on, in a state -/
def thB (U : State) : Prop := (∀ w ∈ thW 52 56 eA nmA, w.before #[] U = true) ∧ (∀ w ∈ thW 100 104 eS nmS, w.before #[] U = true) ∧ (∀ w ∈ thW 105 109 eG nmS, w.before #[] U = true) ∧ (∀ q ∈ thT, ∃ sa, vk_R RX3 q.1 q.2 sa U) ∧
  vx_Zq Bundle.tN "UNASSIGNED_STACK" Bundle.steD (fun _ => False) U U.heap ∧ vx_Zq Bundle.tN "SUPPRESSED_SENTINEL" Bundle.listD (fun _ => False) U U.heap
theorem thB_moved {s U : State} (hW : s.WarmedH U.vm) (hh : ∀ a : Nat, a < s.heap.size → U.heap[a]? = s.heap[a]?) (h : thB s) : thB U := by
  obtain ⟨h1, h2, h3, h4, h5, h6⟩ := h
  refine ⟨fun w hw => mvW_moved hW (thA_m w hw).1 (h1 w hw), fun w hw => mvW_moved hW (thS_m w hw).1 (h2 w hw), fun w hw => mvW_moved hW (thG_m w hw).1 (h3 w hw), fun q hq => ?_, ?_, ?_⟩
  · obtain ⟨sa, hsa⟩ := h4 q hq
    exact ⟨sa, hsa.warm hW⟩
  · exact vx_Zq.kept (vx_Zq.moved hW.alike h5) (fun a ha _ => hh a ha)
  · exact vx_Zq.kept (vx_Zq.moved hW.alike h6) (fun a ha _ => hh a ha)
section TH
variable {p : Program} {l : Launch} {e : Env} {R : Room} {s : State} {m : MethodId} {args : Array Value} {below : List Frame} {meth : Method} {c : Code} {H : Heap} {locs : List Loc} {cells slots : Nat} {Q : State → Prop} {pc : Nat} {ls : Array Slot} {rest st0 : List Value}
variable {cc : ByteArray} {D : va_G} {cl : List vw_C} {A A0 : Nat → Prop} {tys : List (ClassId × FieldType)} {ws ws' : va_W} {H0 : Heap}
def thPc (D : va_G) (cl : List vw_C) (ws : va_W) (tys : List (ClassId × FieldType)) (av : List Value) : Array Value → State → Prop := va_Pc av (fun U => va_P D cl ws U.heap ∧ va_K D cl tys U ∧ thB U)
def thX (E0 : String) : String → State → State → Prop := fun E st t => E = E0 ∧ st.heap.size ≤ t.heap.size ∧ ∀ q : Nat, q < st.heap.size → t.heap[q]? = st.heap[q]?
def noQ : Array Value → State → Outcome → State → Prop := fun _ _ _ _ => False
theorem th_blind {av : List Value} : FrameBlind (thPc D cl ws tys av) := fun a U g mk q => by
  obtain ⟨q0, qP, qK, qT⟩ := q
  exact ⟨q0, qP, va_K.moved (u := U) (U := U.calling g mk a) (Vm.Alike.refl U.vm) qK, thB_moved (s := U) (U := U.calling g mk a) (State.WarmedH.refl U) (fun _ _ => rfl) qT⟩
theorem th_preV {b ci : Nat} {q : vw_C} {fs As : List Value} (hP : va_P D cl ws H) (hK : va_K D cl tys s) (hT : ∀ U : State, U.heap = H → s.WarmedH U.vm → thB U) (q0 : Nat) (hc : cl[ci]? = some q) (he : ws[q0]? = some (b, .inr (ci, fs))) : PreV s H q.1 b (thPc D cl ws tys (.ref b :: As)) As :=
  ⟨th_blind, va_recv hK hP hc he, fun U hU hW => ⟨rfl, by rw [hU]; exact hP, va_K.moved hW.alike hK, hT U hU hW⟩⟩
theorem th_of {y : MethodName} {wc wc' : List Cond} {rm : Room} {av : List Value} {E0 : String} {maxL : Nat} {ret : Option FieldType} {own : String} (hy : plainName y.cls = true) (ho : y.cls = own) (hw : wc = Cond.code y cc maxL ret :: wc') (hfit : (lg_sl av).length ≤ maxL)
    (body : ∀ (p : Program) (e : Env) (s : State) (m : MethodId) (below : List Frame) (meth : Method) (c : Code), p.tables.exec = Jvm.exec → c.code = cc → meth.sig.returnType = ret → c.maxLocals = maxL → (∀ w ∈ wc, w.before av.toArray s = true) → s.vm.findClass own = some m.cls → meth.locks = false → va_P D cl ws s.heap → va_K D cl tys s → thB s → (∀ x ∈ c.exceptionTable.toList, False) →
      ∀ ls : Array Slot, lv_has ls maxL (lv_args 0 av) → W p l e rm s m av.toArray below meth c s.heap [] 0 0 (vx_MQ below noQ (thX E0) av.toArray s 1 6 (fun _ => False)) (F0 m 0 ls [])) : vx_Met l y wc rm (thPc D cl ws tys av) noQ (thX E0) 1 6 (fun _ => False) := by
  refine vx_ofW (cc := cc) (maxL := maxL) (ret := ret) hy hw ?_
  intro p e s m args below meth c s₁ B hml hno hv
  obtain ⟨rfl, hP, hK, hT⟩ := hv
  have hl := lv_entry av (n := maxL) hfit
  rw [lg_entry_eq]
  generalize (lg_sl av ++ List.replicate (maxL - (lg_sl av).length) Slot.unset).toArray = ls at hl ⊢
  exact body p e s m below meth c B.exec B.bytes B.returns hml (atoms_spec (ws := wc) B.pre) (ho ▸ findClass_of_methodNamed B.named) B.notSynchronized hP hK hT hno ls hl
theorem th_go {ik is ic : Nat} {X text : String} {names : List String} (hlt : l.stackTraces = false) (hexec : p.tables.exec = Jvm.exec) (hb : c.code = cc) (hown : s.vm.findClass RX3 = some m.cls) (hlocks : meth.locks = false) (hsize : ls.size = c.maxLocals) (hno : ∀ x ∈ c.exceptionTable.toList, False)
    (hW : ∀ w ∈ thW ik ic X names, w.before #[] s = true) (hM : ∀ w ∈ thW ik ic X names, mvW w = true ∧ vx_ot w = true) (hF : Bundle.fit X = true ∧ ∀ n ∈ names, Bundle.fit n = true) (hR : ∃ sa, vk_R RX3 is text sa s)
    (hU : vx_Zq Bundle.tN "UNASSIGNED_STACK" Bundle.steD (fun _ => False) s s.heap) (hN : vx_Zq Bundle.tN "SUPPRESSED_SENTINEL" Bundle.listD (fun _ => False) s s.heap)
    (d0 : decode cc pc = .ok (.new ik, 3)) (d3 : decode cc (pc + 3) = .ok (.dup, 1)) (d4 : decode cc (pc + 4) = .ok (.ldc is, 2)) (d6 : decode cc (pc + 6) = .ok (.invokespecial ic, 3)) (d9 : decode cc (pc + 9) = .ok (.athrow, 1))
    (hRf : names.length + 3 < R.frames) (hRl : (rest.map fun v => v.category).sum + (13 * (names.length + 1) + 43) ≤ R.locals) (hRc : 1 ≤ R.cells) (hRs : 6 ≤ R.slots) :
    W p l e R s m args below meth c s.heap [] 0 0 (vx_MQ below noQ (thX X) args s 1 6 (fun _ => False)) (F0 m pc ls rest) := by
  obtain ⟨sa, hsa⟩ := hR
  have hmv : ∀ w ∈ thW ik ic X names, w.before args s = true := fun w hw => mvW_moved (State.WarmedH.refl s) (hM w hw).1 (hW w hw)
  exact vx_throwS (A := fun _ => False) hexec hb hlt hown hF.1 hF.2 (hmv _ List.mem_cons_self) (hmv _ (List.mem_cons_of_mem _ List.mem_cons_self)) hsa (fun w hw => hmv w (List.mem_cons_of_mem _ (List.mem_cons_of_mem _ hw))) (fun w hw => (hM w hw).2) hU hN va_S.rf hsize d0 d3 d4 d6 d9 (fun x hx => (hno x hx).elim) hRf hRl (by omega) (by omega) hlocks (fun t _ h1 h2 => ⟨rfl, h1, h2⟩) (fun _ h => nomatch h) (by omega) (by omega)
end TH
end
section
set_option maxHeartbeats 4000000 in
set_option maxRecDepth 100000 in
theorem c_X3_appendRow (l : Launch) (dC : Nat → ClassId) (dI : Nat → Nat → Nat) (cs : ClassId × ClassId) (a n : Nat → Nat) (f : Nat → Nat → Int32) (sz : Nat) (ra : Int32) (rb : Int32) (rg : Int32) (rt : Int32) (rs : Int32) (hB : x_bd n) (h1 : n 9 < n 2)  : Met l yX3_appendRow wsX3_appendRow ({ frames := 2, cells := 0, slots := 0, locals := 49 }) (wrPc (dC, dI) vwCl (wX cs a n f) (tyl cs) sz [.ref (a 0), .int ra, .int rb, .int rg, .int rt, .int rs]) (wrQ (dC, dI) vwCl (wX cs a (un n 9 ((n 9) + 1)) (x_apF n f ra rb rg rt rs)) (some (.int (nI (x_pos n (n 9))))) (va_A (wX cs a n f) sz)) 0 0 (va_A (wX cs a n f) sz) := by
  refine wr_of (cc := cX3_appendRow) (maxL := 7) (ret := (some .int)) (own := RX3) (by decide) rfl rfl (Nat.le_of_ble_eq_true rfl) ?_
  intro p e s m below meth c A hsz hAe hx hb hr hml hts hown hlocks hP hK hD hA hS ls hl
  have hl : lv_has ls 7 [(0, .ref (a 0)), (1, .int ra), (2, .int rb), (3, .int rg), (4, .int rt), (5, .int rs)] := hl
  have hinX3 : ∀ w ∈ wsX30, w ∈ wsX3_appendRow := by decide +kernel
  obtain ⟨B1, B2, B3, B4, B5, B6, B7, B8, B9, B10, B11, B12, B13, B14, B15⟩ := id hB
  refine lv_aload_n hx hb dX3_appendRow_0 rfl (lv_at hl 0 rfl) ?_
  refine va_get (D := (dC, dI)) (ci := 4) (v := .ref (a 2)) (C := RX3) (T := TX3) (N := 9) hx hb hts hinX3 hown hK hP 0 rfl rfl 1 (by decide) (hts (.fieldLink RX3 27 "RenameRows" "ring" "LRenameRows$Ring;") (by decide +kernel)) (fun _ h9 => h9) rfl dX3_appendRow_1 ?_
  refine lv_iload_n hx hb dX3_appendRow_4 rfl (lv_at hl 1 rfl) ?_
  refine lv_iload_n hx hb dX3_appendRow_5 rfl (lv_at hl 2 rfl) ?_
  refine lv_iload_n hx hb dX3_appendRow_6 rfl (lv_at hl 3 rfl) ?_
  refine lv_aload_n hx hb dX3_appendRow_7 rfl (lv_at hl 0 rfl) ?_
  refine lv_iload hx hb dX3_appendRow_8 (lv_at hl 4 rfl) ?_
  refine W.callR (W.runV (As := [.int rt]) (rest := [.int rg, .int rb, .int ra, .ref (a 2)]) ⟨hx, hb, hml, hown, hts⟩ (c_X3_currentName l dC dI cs a n f rt hB) (cwV 1 hts gX3_appendRow_X3_currentName rfl rfl rfl (by decide +kernel) ⟨Nat.le_of_ble_eq_true rfl, Nat.le_of_ble_eq_true rfl⟩) (rd_preV (q := (RX3, TX3, 9)) hP hK 0 rfl rfl) rfl rfl hl.1 rfl (lv_room (Nat.le_of_ble_eq_true rfl)) dX3_appendRow_10 ⟨Nat.zero_le _, Nat.zero_le _⟩) ?_
  refine W.eq (g2 := F0 m 13 ls (.int (x_cur n f rt) :: [.int rg, .int rb, .int ra, .ref (a 2)])) rfl ?_
  refine lv_iload hx hb dX3_appendRow_13 (lv_at hl 4 rfl) ?_
  refine lv_iload hx hb dX3_appendRow_15 (lv_at hl 5 rfl) ?_
  refine wr_calli (va_runV (As := [.int ra, .int rb, .int rg, .int (x_cur n f rt), .int rt, .int rs]) (rest := []) ⟨hx, hb, hml, hown, hts⟩ (c_X2_append l dC dI cs a n f s.heap.size ra rb rg (x_cur n f rt) rt rs hB (by first | omega | assumption)) (cwV 6 hts gX3_appendRow_X2_append rfl rfl rfl (by decide +kernel) ⟨Nat.le_of_ble_eq_true rfl, Nat.le_of_ble_eq_true rfl⟩) (wr_preV (q := (RX2, TX2, 10)) hP hK hD 2 rfl rfl) rfl rfl hl.1 rfl (lv_room (Nat.le_of_ble_eq_true rfl)) dX3_appendRow_17 ⟨Nat.zero_le _, Nat.zero_le _⟩) hS hD hA rfl (fun H locs hP hD hS => ?_)
  have hP : va_P (dC, dI) vwCl (wX cs a (un n 9 ((n 9) + 1)) (x_app n f ra rb rg (x_cur n f rt) rt rs)) H := hP
  have hD : va_D A (wX cs a (un n 9 ((n 9) + 1)) (x_app n f ra rb rg (x_cur n f rt) rt rs)) := hD
  have hB : x_bd (un n 9 ((n 9) + 1)) := by (unfold x_bd un; simp; omega)
  refine lv_istore (lv' := [(6, .int (nI (x_pos n (n 9)))), (0, .ref (a 0)), (1, .int ra), (2, .int rb), (3, .int rg), (4, .int rt), (5, .int rs)]) hx hb dX3_appendRow_20 hl (by decide) rfl (fun ls hl => ?_)
  refine lv_aload_n hx hb dX3_appendRow_22 rfl (lv_at hl 1 rfl) ?_
  refine lv_iload hx hb dX3_appendRow_23 (lv_at hl 5 rfl) ?_
  refine W.callR (W.runV (As := [.int rt]) (rest := []) ⟨hx, hb, hml, hown, hts⟩ (c_X3_isRegister l dC dI cs a (un n 9 ((n 9) + 1)) (x_app n f ra rb rg (x_cur n f rt) rt rs) rt hB) (cwV 1 hts gX3_appendRow_X3_isRegister rfl rfl rfl (by decide +kernel) ⟨Nat.le_of_ble_eq_true rfl, Nat.le_of_ble_eq_true rfl⟩) (rd_preV (q := (RX3, TX3, 9)) hP hK 0 rfl rfl) rfl rfl hl.1 rfl (lv_room (Nat.le_of_ble_eq_true rfl)) dX3_appendRow_25 ⟨Nat.zero_le _, Nat.zero_le _⟩) ?_
  refine W.eq (g2 := F0 m 28 ls (.int (b2i (inB rt (n 0))) :: [])) rfl ?_
  refine lv_if_eq (tgt := 39) hx hb dX3_appendRow_28 (by decide) (fun c_1 => ?_) (fun c_1 => ?_)
  · have c_1 : inB rt (n 0) = false := b2i_f c_1
    refine lv_iload hx hb dX3_appendRow_39 (lv_at hl 0 rfl) ?_
    have hP : va_P (dC, dI) vwCl (wX cs a (un n 9 ((n 9) + 1)) (x_apF n f ra rb rg rt rs)) H := by
      have e9 : (wX cs a (un n 9 ((n 9) + 1)) (x_app n f ra rb rg (x_cur n f rt) rt rs)) = (wX cs a (un n 9 ((n 9) + 1)) (x_apF n f ra rb rg rt rs)) := by first | (simp [x_apF, c_1]; done) | (simp [nI_0, x_apF, c_1]; done) | (simp [x_apF, c_1]; omega)
      rw [← e9]; exact hP
    exact wr_iret hx hb hr hlocks hP hS dX3_appendRow_41
  · have c_1 : inB rt (n 0) = true := b2i_t c_1
    obtain ⟨jrt, hjrt, rfl⟩ := inB_t c_1 (by omega)
    refine lv_aload_n hx hb dX3_appendRow_31 rfl (lv_at hl 1 rfl) ?_
    refine va_get (D := (dC, dI)) (ci := 4) (v := .ref (a 4)) (C := RX3) (T := TX3) (N := 9) hx hb hts hinX3 hown hK hP 0 rfl rfl 3 (by decide) (hts (.fieldLink RX3 38 "RenameRows" "nameNow" "[I") (by decide +kernel)) (fun _ h9 => h9) rfl dX3_appendRow_32 ?_
    refine lv_iload hx hb dX3_appendRow_35 (lv_at hl 5 rfl) ?_
    refine lv_iload_n hx hb dX3_appendRow_37 rfl (lv_at hl 4 rfl) ?_
    refine ar_st (D := (dC, dI)) (n := n 0) (f := f 4) hx hb hK hP hD hS 4 0 rfl rfl (by omega) (by omega) dX3_appendRow_38 (fun H locs hP hD hS => ?_)
    have hP : va_P (dC, dI) vwCl (wX cs a (un n 9 ((n 9) + 1)) (uf (x_app n f ra rb rg (x_cur n f (nI jrt)) (nI jrt) rs) 4 (upd (f 4) jrt rg))) H := hP
    have hD : va_D A (wX cs a (un n 9 ((n 9) + 1)) (uf (x_app n f ra rb rg (x_cur n f (nI jrt)) (nI jrt) rs) 4 (upd (f 4) jrt rg))) := hD
    refine lv_iload hx hb dX3_appendRow_39 (lv_at hl 0 rfl) ?_
    have hP : va_P (dC, dI) vwCl (wX cs a (un n 9 ((n 9) + 1)) (x_apF n f ra rb rg (nI jrt) rs)) H := by
      have e9 : (wX cs a (un n 9 ((n 9) + 1)) (uf (x_app n f ra rb rg (x_cur n f (nI jrt)) (nI jrt) rs) 4 (upd (f 4) jrt rg))) = (wX cs a (un n 9 ((n 9) + 1)) (x_apF n f ra rb rg (nI jrt) rs)) := by first | (simp [x_apF, c_1, cl32_nI (show jrt < 2 ^ 31 by omega)]; done) | (simp [nI_0, x_apF, c_1, cl32_nI (show jrt < 2 ^ 31 by omega)]; done) | (simp [x_apF, c_1, cl32_nI (show jrt < 2 ^ 31 by omega)]; omega)
      rw [← e9]; exact hP
    exact wr_iret hx hb hr hlocks hP hS dX3_appendRow_41

set_option maxHeartbeats 4000000 in
set_option maxRecDepth 100000 in
theorem c_X3_finishOldest_0 (l : Launch) (dC : Nat → ClassId) (dI : Nat → Nat → Nat) (cs : ClassId × ClassId) (a n : Nat → Nat) (f : Nat → Nat → Int32) (sz : Nat) (hr0 : f 14 (n 8) = -1) (hB : x_bd n) (h1 : 0 < n 9)  : Met l yX3_finishOldest wsX3_finishOldest ({ frames := 2, cells := 0, slots := 0, locals := 43 }) (wrPc (dC, dI) vwCl (wX cs a n f) (tyl cs) sz [.ref (a 0)]) (wrQ (dC, dI) vwCl (wX cs a (x_dN n) f) none (va_A (wX cs a n f) sz)) 0 0 (va_A (wX cs a n f) sz) := by
  refine wr_of (cc := cX3_finishOldest) (maxL := 3) (ret := none) (own := RX3) (by decide) rfl rfl (Nat.le_of_ble_eq_true rfl) ?_
  intro p e s m below meth c A hsz hAe hx hb hr hml hts hown hlocks hP hK hD hA hS ls hl
  have hl : lv_has ls 3 [(0, .ref (a 0))] := hl
  have hinX3 : ∀ w ∈ wsX30, w ∈ wsX3_finishOldest := by decide +kernel
  obtain ⟨B1, B2, B3, B4, B5, B6, B7, B8, B9, B10, B11, B12, B13, B14, B15⟩ := id hB
  have ho : x_old n = nI (n 8) := by simp [x_old]; omega
  refine lv_aload_n hx hb dX3_finishOldest_0 rfl (lv_at hl 0 rfl) ?_
  refine va_get (D := (dC, dI)) (ci := 4) (v := .ref (a 2)) (C := RX3) (T := TX3) (N := 9) hx hb hts hinX3 hown hK hP 0 rfl rfl 1 (by decide) (hts (.fieldLink RX3 27 "RenameRows" "ring" "LRenameRows$Ring;") (by decide +kernel)) (fun _ h9 => h9) rfl dX3_finishOldest_1 ?_
  refine W.callR (W.runV (As := []) (rest := []) ⟨hx, hb, hml, hown, hts⟩ (c_X2_oldestPlace l dC dI cs a n f hB) (cwV 0 hts gX3_finishOldest_X2_oldestPlace rfl rfl rfl (by decide +kernel) ⟨Nat.le_of_ble_eq_true rfl, Nat.le_of_ble_eq_true rfl⟩) (rd_preV (q := (RX2, TX2, 10)) hP hK 2 rfl rfl) rfl rfl hl.1 rfl (lv_room (Nat.le_of_ble_eq_true rfl)) dX3_finishOldest_4 ⟨Nat.zero_le _, Nat.zero_le _⟩) ?_
  refine W.eq (g2 := F0 m 7 ls (.int (x_old n) :: [])) rfl ?_
  refine tp_eq ho ?_
  refine lv_istore_n (lv' := [(1, .int (nI (n 8))), (0, .ref (a 0))]) hx hb dX3_finishOldest_7 rfl hl (by decide) rfl (fun ls hl => ?_)
  refine lv_aload_n hx hb dX3_finishOldest_8 rfl (lv_at hl 1 rfl) ?_
  refine va_get (D := (dC, dI)) (ci := 4) (v := .ref (a 2)) (C := RX3) (T := TX3) (N := 9) hx hb hts hinX3 hown hK hP 0 rfl rfl 1 (by decide) (hts (.fieldLink RX3 27 "RenameRows" "ring" "LRenameRows$Ring;") (by decide +kernel)) (fun _ h9 => h9) rfl dX3_finishOldest_9 ?_
  refine lv_iload_n hx hb dX3_finishOldest_12 rfl (lv_at hl 0 rfl) ?_
  refine W.callR (W.runV (As := [.int (nI (n 8))]) (rest := []) ⟨hx, hb, hml, hown, hts⟩ (c_X2_registerAt l dC dI cs a n f (nI (n 8)) hB) (cwV 1 hts gX3_finishOldest_X2_registerAt rfl rfl rfl (by decide +kernel) ⟨Nat.le_of_ble_eq_true rfl, Nat.le_of_ble_eq_true rfl⟩) (rd_preV (q := (RX2, TX2, 10)) hP hK 2 rfl rfl) rfl rfl hl.1 rfl (lv_room (Nat.le_of_ble_eq_true rfl)) dX3_finishOldest_13 ⟨Nat.zero_le _, Nat.zero_le _⟩) ?_
  refine W.eq (g2 := F0 m 16 ls (.int (x_at 14 n f (nI (n 8))) :: [])) rfl ?_
  refine tp_eq (x_at_nI (by omega) (by omega)) ?_
  refine W.eq (g2 := F0 m 16 ls (.int (f 14 (n 8)) :: [])) rfl ?_
  refine lv_istore_n (lv' := [(2, .int (f 14 (n 8))), (1, .int (nI (n 8))), (0, .ref (a 0))]) hx hb dX3_finishOldest_16 rfl hl (by decide) rfl (fun ls hl => ?_)
  refine lv_aload_n hx hb dX3_finishOldest_17 rfl (lv_at hl 2 rfl) ?_
  refine lv_iload_n hx hb dX3_finishOldest_18 rfl (lv_at hl 0 rfl) ?_
  refine W.callR (W.runV (As := [.int (f 14 (n 8))]) (rest := []) ⟨hx, hb, hml, hown, hts⟩ (c_X3_isRegister l dC dI cs a n f (f 14 (n 8)) hB) (cwV 1 hts gX3_finishOldest_X3_isRegister rfl rfl rfl (by decide +kernel) ⟨Nat.le_of_ble_eq_true rfl, Nat.le_of_ble_eq_true rfl⟩) (rd_preV (q := (RX3, TX3, 9)) hP hK 0 rfl rfl) rfl rfl hl.1 rfl (lv_room (Nat.le_of_ble_eq_true rfl)) dX3_finishOldest_19 ⟨Nat.zero_le _, Nat.zero_le _⟩) ?_
  refine W.eq (g2 := F0 m 22 ls (.int (b2i (inB (f 14 (n 8)) (n 0))) :: [])) rfl ?_
  refine lv_if_eq (tgt := 54) hx hb dX3_finishOldest_22 (by decide) (fun c_1 => ?_) (fun c_1 => absurd (b2i_t c_1) (by rw [hr0, inB_m1]; decide))
  have c_1 : inB (f 14 (n 8)) (n 0) = false := b2i_f c_1
  refine lv_aload_n hx hb dX3_finishOldest_54 rfl (lv_at hl 2 rfl) ?_
  refine va_get (D := (dC, dI)) (ci := 4) (v := .ref (a 2)) (C := RX3) (T := TX3) (N := 9) hx hb hts hinX3 hown hK hP 0 rfl rfl 1 (by decide) (hts (.fieldLink RX3 27 "RenameRows" "ring" "LRenameRows$Ring;") (by decide +kernel)) (fun _ h9 => h9) rfl dX3_finishOldest_55 ?_
  refine wr_callv (va_runV (As := []) (rest := []) ⟨hx, hb, hml, hown, hts⟩ (c_X2_dropOldest l dC dI cs a n f s.heap.size hB (by first | omega | assumption)) (cwV 0 hts gX3_finishOldest_X2_dropOldest rfl rfl rfl (by decide +kernel) ⟨Nat.le_of_ble_eq_true rfl, Nat.le_of_ble_eq_true rfl⟩) (wr_preV (q := (RX2, TX2, 10)) hP hK hD 2 rfl rfl) rfl rfl hl.1 rfl (lv_room (Nat.le_of_ble_eq_true rfl)) dX3_finishOldest_58 ⟨Nat.zero_le _, Nat.zero_le _⟩) hS hD hA rfl (fun H locs hP hD hS => ?_)
  have hP : va_P (dC, dI) vwCl (wX cs a (un (un (un n 8 (x_pos n 1)) 9 ((n 9) - 1)) 10 ((n 10) + 1)) f) H := hP
  have hD : va_D A (wX cs a (un (un (un n 8 (x_pos n 1)) 9 ((n 9) - 1)) 10 ((n 10) + 1)) f) := hD
  have hP : va_P (dC, dI) vwCl (wX cs a (x_dN n) f) H := by
    have e9 : (wX cs a (un (un (un n 8 (x_pos n 1)) 9 ((n 9) - 1)) 10 ((n 10) + 1)) f) = (wX cs a (x_dN n) f) := by rfl
    rw [← e9]; exact hP
  exact wr_vret hx hb hr hlocks hP hS dX3_finishOldest_61

set_option maxHeartbeats 4000000 in
set_option maxRecDepth 100000 in
theorem c_X3_finishOldest_r (l : Launch) (dC : Nat → ClassId) (dI : Nat → Nat → Nat) (cs : ClassId × ClassId) (a n : Nat → Nat) (f : Nat → Nat → Int32) (sz : Nat) (r q : Nat) (hr1 : f 14 (n 8) = nI r) (hq : f 13 (n 8) = nI q) (hB : x_bd n) (h1 : 0 < n 9) (h2 : r < n 0) (h3 : q < n 1) (h4 : ¬ f 7 q = 0) (h5 : n 7 < n 1)  : Met l yX3_finishOldest wsX3_finishOldest ({ frames := 2, cells := 0, slots := 0, locals := 43 }) (wrPc (dC, dI) vwCl (wX cs a n f) (tyl cs) sz [.ref (a 0)]) (wrQ (dC, dI) vwCl (wX cs a (x_dN (x_gN n (uf f 5 (upd (f 5) r (f 12 (n 8)))) q)) (x_gF n (uf f 5 (upd (f 5) r (f 12 (n 8)))) q)) none (va_A (wX cs a n f) sz)) 0 0 (va_A (wX cs a n f) sz) := by
  refine wr_of (cc := cX3_finishOldest) (maxL := 3) (ret := none) (own := RX3) (by decide) rfl rfl (Nat.le_of_ble_eq_true rfl) ?_
  intro p e s m below meth c A hsz hAe hx hb hr hml hts hown hlocks hP hK hD hA hS ls hl
  have hl : lv_has ls 3 [(0, .ref (a 0))] := hl
  have hinX3 : ∀ w ∈ wsX30, w ∈ wsX3_finishOldest := by decide +kernel
  obtain ⟨B1, B2, B3, B4, B5, B6, B7, B8, B9, B10, B11, B12, B13, B14, B15⟩ := id hB
  have ho : x_old n = nI (n 8) := by simp [x_old]; omega
  refine lv_aload_n hx hb dX3_finishOldest_0 rfl (lv_at hl 0 rfl) ?_
  refine va_get (D := (dC, dI)) (ci := 4) (v := .ref (a 2)) (C := RX3) (T := TX3) (N := 9) hx hb hts hinX3 hown hK hP 0 rfl rfl 1 (by decide) (hts (.fieldLink RX3 27 "RenameRows" "ring" "LRenameRows$Ring;") (by decide +kernel)) (fun _ h9 => h9) rfl dX3_finishOldest_1 ?_
  refine W.callR (W.runV (As := []) (rest := []) ⟨hx, hb, hml, hown, hts⟩ (c_X2_oldestPlace l dC dI cs a n f hB) (cwV 0 hts gX3_finishOldest_X2_oldestPlace rfl rfl rfl (by decide +kernel) ⟨Nat.le_of_ble_eq_true rfl, Nat.le_of_ble_eq_true rfl⟩) (rd_preV (q := (RX2, TX2, 10)) hP hK 2 rfl rfl) rfl rfl hl.1 rfl (lv_room (Nat.le_of_ble_eq_true rfl)) dX3_finishOldest_4 ⟨Nat.zero_le _, Nat.zero_le _⟩) ?_
  refine W.eq (g2 := F0 m 7 ls (.int (x_old n) :: [])) rfl ?_
  refine tp_eq ho ?_
  refine lv_istore_n (lv' := [(1, .int (nI (n 8))), (0, .ref (a 0))]) hx hb dX3_finishOldest_7 rfl hl (by decide) rfl (fun ls hl => ?_)
  refine lv_aload_n hx hb dX3_finishOldest_8 rfl (lv_at hl 1 rfl) ?_
  refine va_get (D := (dC, dI)) (ci := 4) (v := .ref (a 2)) (C := RX3) (T := TX3) (N := 9) hx hb hts hinX3 hown hK hP 0 rfl rfl 1 (by decide) (hts (.fieldLink RX3 27 "RenameRows" "ring" "LRenameRows$Ring;") (by decide +kernel)) (fun _ h9 => h9) rfl dX3_finishOldest_9 ?_
  refine lv_iload_n hx hb dX3_finishOldest_12 rfl (lv_at hl 0 rfl) ?_
  refine W.callR (W.runV (As := [.int (nI (n 8))]) (rest := []) ⟨hx, hb, hml, hown, hts⟩ (c_X2_registerAt l dC dI cs a n f (nI (n 8)) hB) (cwV 1 hts gX3_finishOldest_X2_registerAt rfl rfl rfl (by decide +kernel) ⟨Nat.le_of_ble_eq_true rfl, Nat.le_of_ble_eq_true rfl⟩) (rd_preV (q := (RX2, TX2, 10)) hP hK 2 rfl rfl) rfl rfl hl.1 rfl (lv_room (Nat.le_of_ble_eq_true rfl)) dX3_finishOldest_13 ⟨Nat.zero_le _, Nat.zero_le _⟩) ?_
  refine W.eq (g2 := F0 m 16 ls (.int (x_at 14 n f (nI (n 8))) :: [])) rfl ?_
  refine tp_eq (x_at_nI (by omega) (by omega)) ?_
  refine W.eq (g2 := F0 m 16 ls (.int (f 14 (n 8)) :: [])) rfl ?_
  refine tp_eq hr1 ?_
  refine lv_istore_n (lv' := [(2, .int (nI r)), (1, .int (nI (n 8))), (0, .ref (a 0))]) hx hb dX3_finishOldest_16 rfl hl (by decide) rfl (fun ls hl => ?_)
  refine lv_aload_n hx hb dX3_finishOldest_17 rfl (lv_at hl 2 rfl) ?_
  refine lv_iload_n hx hb dX3_finishOldest_18 rfl (lv_at hl 0 rfl) ?_
  refine W.callR (W.runV (As := [.int (nI r)]) (rest := []) ⟨hx, hb, hml, hown, hts⟩ (c_X3_isRegister l dC dI cs a n f (nI r) hB) (cwV 1 hts gX3_finishOldest_X3_isRegister rfl rfl rfl (by decide +kernel) ⟨Nat.le_of_ble_eq_true rfl, Nat.le_of_ble_eq_true rfl⟩) (rd_preV (q := (RX3, TX3, 9)) hP hK 0 rfl rfl) rfl rfl hl.1 rfl (lv_room (Nat.le_of_ble_eq_true rfl)) dX3_finishOldest_19 ⟨Nat.zero_le _, Nat.zero_le _⟩) ?_
  refine W.eq (g2 := F0 m 22 ls (.int (b2i (inB (nI r) (n 0))) :: [])) rfl ?_
  refine lv_if_eq (tgt := 54) hx hb dX3_finishOldest_22 (by decide) (fun c_1 => absurd (b2i_f c_1) (by rw [inB_nI (by omega) (by omega)]; simp; omega)) (fun c_1 => ?_)
  have c_1 : inB (nI r) (n 0) = true := b2i_t c_1
  refine lv_aload_n hx hb dX3_finishOldest_25 rfl (lv_at hl 2 rfl) ?_
  refine va_get (D := (dC, dI)) (ci := 4) (v := .ref (a 5)) (C := RX3) (T := TX3) (N := 9) hx hb hts hinX3 hown hK hP 0 rfl rfl 4 (by decide) (hts (.fieldLink RX3 42 "RenameRows" "nameSure" "[I") (by decide +kernel)) (fun _ h9 => h9) rfl dX3_finishOldest_26 ?_
  refine lv_iload_n hx hb dX3_finishOldest_29 rfl (lv_at hl 0 rfl) ?_
  refine lv_aload_n hx hb dX3_finishOldest_30 rfl (lv_at hl 2 rfl) ?_
  refine va_get (D := (dC, dI)) (ci := 4) (v := .ref (a 2)) (C := RX3) (T := TX3) (N := 9) hx hb hts hinX3 hown hK hP 0 rfl rfl 1 (by decide) (hts (.fieldLink RX3 27 "RenameRows" "ring" "LRenameRows$Ring;") (by decide +kernel)) (fun _ h9 => h9) rfl dX3_finishOldest_31 ?_
  refine lv_iload_n hx hb dX3_finishOldest_34 rfl (lv_at hl 1 rfl) ?_
  refine W.callR (W.runV (As := [.int (nI (n 8))]) (rest := [.int (nI r), .ref (a 5)]) ⟨hx, hb, hml, hown, hts⟩ (c_X2_givenAt l dC dI cs a n f (nI (n 8)) hB) (cwV 1 hts gX3_finishOldest_X2_givenAt rfl rfl rfl (by decide +kernel) ⟨Nat.le_of_ble_eq_true rfl, Nat.le_of_ble_eq_true rfl⟩) (rd_preV (q := (RX2, TX2, 10)) hP hK 2 rfl rfl) rfl rfl hl.1 rfl (lv_room (Nat.le_of_ble_eq_true rfl)) dX3_finishOldest_35 ⟨Nat.zero_le _, Nat.zero_le _⟩) ?_
  refine W.eq (g2 := F0 m 38 ls (.int (x_at 12 n f (nI (n 8))) :: [.int (nI r), .ref (a 5)])) rfl ?_
  refine tp_eq (x_at_nI (by omega) (by omega)) ?_
  refine W.eq (g2 := F0 m 38 ls (.int (f 12 (n 8)) :: [.int (nI r), .ref (a 5)])) rfl ?_
  refine ar_st (D := (dC, dI)) (n := n 0) (f := f 5) hx hb hK hP hD hS 5 0 rfl rfl (by omega) (by omega) dX3_finishOldest_38 (fun H locs hP hD hS => ?_)
  have hP : va_P (dC, dI) vwCl (wX cs a n (uf f 5 (upd (f 5) r (f 12 (n 8))))) H := hP
  have hD : va_D A (wX cs a n (uf f 5 (upd (f 5) r (f 12 (n 8))))) := hD
  refine lv_aload_n hx hb dX3_finishOldest_39 rfl (lv_at hl 2 rfl) ?_
  refine va_get (D := (dC, dI)) (ci := 4) (v := .ref (a 1)) (C := RX3) (T := TX3) (N := 9) hx hb hts hinX3 hown hK hP 0 rfl rfl 0 (by decide) (hts (.fieldLink RX3 18 "RenameRows" "names" "LRenameRows$Names;") (by decide +kernel)) (fun _ h9 => h9) rfl dX3_finishOldest_40 ?_
  refine lv_aload_n hx hb dX3_finishOldest_43 rfl (lv_at hl 2 rfl) ?_
  refine va_get (D := (dC, dI)) (ci := 4) (v := .ref (a 2)) (C := RX3) (T := TX3) (N := 9) hx hb hts hinX3 hown hK hP 0 rfl rfl 1 (by decide) (hts (.fieldLink RX3 27 "RenameRows" "ring" "LRenameRows$Ring;") (by decide +kernel)) (fun _ h9 => h9) rfl dX3_finishOldest_44 ?_
  refine lv_iload_n hx hb dX3_finishOldest_47 rfl (lv_at hl 1 rfl) ?_
  refine W.callR (W.runV (As := [.int (nI (n 8))]) (rest := [.ref (a 1)]) ⟨hx, hb, hml, hown, hts⟩ (c_X2_knownAt l dC dI cs a n (uf f 5 (upd (f 5) r (f 12 (n 8)))) (nI (n 8)) hB) (cwV 1 hts gX3_finishOldest_X2_knownAt rfl rfl rfl (by decide +kernel) ⟨Nat.le_of_ble_eq_true rfl, Nat.le_of_ble_eq_true rfl⟩) (rd_preV (q := (RX2, TX2, 10)) hP hK 2 rfl rfl) rfl rfl hl.1 rfl (lv_room (Nat.le_of_ble_eq_true rfl)) dX3_finishOldest_48 ⟨Nat.zero_le _, Nat.zero_le _⟩) ?_
  refine W.eq (g2 := F0 m 51 ls (.int (x_at 13 n (uf f 5 (upd (f 5) r (f 12 (n 8)))) (nI (n 8))) :: [.ref (a 1)])) rfl ?_
  refine tp_eq (x_at_nI (by omega) (by omega)) ?_
  refine W.eq (g2 := F0 m 51 ls (.int (f 13 (n 8)) :: [.ref (a 1)])) rfl ?_
  refine tp_eq hq ?_
  refine wr_callv (va_runV (As := [.int (nI q)]) (rest := []) ⟨hx, hb, hml, hown, hts⟩ (c_X1_giveBack l dC dI cs a n (uf f 5 (upd (f 5) r (f 12 (n 8)))) H.size q hB (by first | omega | assumption | exact h4) (by first | omega | assumption | exact h4) (by first | omega | assumption | exact h4)) (cwV 1 hts gX3_finishOldest_X1_giveBack rfl rfl rfl (by decide +kernel) ⟨Nat.le_of_ble_eq_true rfl, Nat.le_of_ble_eq_true rfl⟩) (wr_preV (q := (RX1, TX1, 5)) hP hK hD 1 rfl rfl) rfl rfl hl.1 rfl (lv_room (Nat.le_of_ble_eq_true rfl)) dX3_finishOldest_51 ⟨Nat.zero_le _, Nat.zero_le _⟩) hS hD hA rfl (fun H locs hP hD hS => ?_)
  have hP : va_P (dC, dI) vwCl (wX cs a (x_gN n (uf f 5 (upd (f 5) r (f 12 (n 8)))) q) (x_gF n (uf f 5 (upd (f 5) r (f 12 (n 8)))) q)) H := hP
  have hD : va_D A (wX cs a (x_gN n (uf f 5 (upd (f 5) r (f 12 (n 8)))) q) (x_gF n (uf f 5 (upd (f 5) r (f 12 (n 8)))) q)) := hD
  have hB : x_bd (x_gN n (uf f 5 (upd (f 5) r (f 12 (n 8)))) q) := by exact x_gN_bd hB (by omega)
  have kg0 : (x_gN n (uf f 5 (upd (f 5) r (f 12 (n 8)))) q) 0 = n 0 := by (rw [x_gN_o (by decide)]; try rfl)
  have kg1 : (x_gN n (uf f 5 (upd (f 5) r (f 12 (n 8)))) q) 1 = n 1 := by (rw [x_gN_o (by decide)]; try rfl)
  have kg2 : (x_gN n (uf f 5 (upd (f 5) r (f 12 (n 8)))) q) 2 = n 2 := by (rw [x_gN_o (by decide)]; try rfl)
  have kg8 : (x_gN n (uf f 5 (upd (f 5) r (f 12 (n 8)))) q) 8 = n 8 := by (rw [x_gN_o (by decide)]; try rfl)
  have kg9 : (x_gN n (uf f 5 (upd (f 5) r (f 12 (n 8)))) q) 9 = n 9 := by (rw [x_gN_o (by decide)]; try rfl)
  have kg10 : (x_gN n (uf f 5 (upd (f 5) r (f 12 (n 8)))) q) 10 = n 10 := by (rw [x_gN_o (by decide)]; try rfl)
  have hB0 := hB
  refine lv_aload_n hx hb dX3_finishOldest_54 rfl (lv_at hl 2 rfl) ?_
  refine va_get (D := (dC, dI)) (ci := 4) (v := .ref (a 2)) (C := RX3) (T := TX3) (N := 9) hx hb hts hinX3 hown hK hP 0 rfl rfl 1 (by decide) (hts (.fieldLink RX3 27 "RenameRows" "ring" "LRenameRows$Ring;") (by decide +kernel)) (fun _ h9 => h9) rfl dX3_finishOldest_55 ?_
  refine wr_callv (va_runV (As := []) (rest := []) ⟨hx, hb, hml, hown, hts⟩ (c_X2_dropOldest l dC dI cs a (x_gN n (uf f 5 (upd (f 5) r (f 12 (n 8)))) q) (x_gF n (uf f 5 (upd (f 5) r (f 12 (n 8)))) q) H.size hB (by first | omega | assumption | exact h4)) (cwV 0 hts gX3_finishOldest_X2_dropOldest rfl rfl rfl (by decide +kernel) ⟨Nat.le_of_ble_eq_true rfl, Nat.le_of_ble_eq_true rfl⟩) (wr_preV (q := (RX2, TX2, 10)) hP hK hD 2 rfl rfl) rfl rfl hl.1 rfl (lv_room (Nat.le_of_ble_eq_true rfl)) dX3_finishOldest_58 ⟨Nat.zero_le _, Nat.zero_le _⟩) hS hD hA rfl (fun H locs hP hD hS => ?_)
  have hP : va_P (dC, dI) vwCl (wX cs a (un (un (un (x_gN n (uf f 5 (upd (f 5) r (f 12 (n 8)))) q) 8 (x_pos (x_gN n (uf f 5 (upd (f 5) r (f 12 (n 8)))) q) 1)) 9 (((x_gN n (uf f 5 (upd (f 5) r (f 12 (n 8)))) q) 9) - 1)) 10 (((x_gN n (uf f 5 (upd (f 5) r (f 12 (n 8)))) q) 10) + 1)) (x_gF n (uf f 5 (upd (f 5) r (f 12 (n 8)))) q)) H := hP
  have hD : va_D A (wX cs a (un (un (un (x_gN n (uf f 5 (upd (f 5) r (f 12 (n 8)))) q) 8 (x_pos (x_gN n (uf f 5 (upd (f 5) r (f 12 (n 8)))) q) 1)) 9 (((x_gN n (uf f 5 (upd (f 5) r (f 12 (n 8)))) q) 9) - 1)) 10 (((x_gN n (uf f 5 (upd (f 5) r (f 12 (n 8)))) q) 10) + 1)) (x_gF n (uf f 5 (upd (f 5) r (f 12 (n 8)))) q)) := hD
  have hP : va_P (dC, dI) vwCl (wX cs a (x_dN (x_gN n (uf f 5 (upd (f 5) r (f 12 (n 8)))) q)) (x_gF n (uf f 5 (upd (f 5) r (f 12 (n 8)))) q)) H := by
    have e9 : (wX cs a (un (un (un (x_gN n (uf f 5 (upd (f 5) r (f 12 (n 8)))) q) 8 (x_pos (x_gN n (uf f 5 (upd (f 5) r (f 12 (n 8)))) q) 1)) 9 (((x_gN n (uf f 5 (upd (f 5) r (f 12 (n 8)))) q) 9) - 1)) 10 (((x_gN n (uf f 5 (upd (f 5) r (f 12 (n 8)))) q) 10) + 1)) (x_gF n (uf f 5 (upd (f 5) r (f 12 (n 8)))) q)) = (wX cs a (x_dN (x_gN n (uf f 5 (upd (f 5) r (f 12 (n 8)))) q)) (x_gF n (uf f 5 (upd (f 5) r (f 12 (n 8)))) q)) := by rfl
    rw [← e9]; exact hP
  exact wr_vret hx hb hr hlocks hP hS dX3_finishOldest_61

set_option maxHeartbeats 4000000 in
set_option maxRecDepth 100000 in
theorem c_X3_takeBackLast_0 (l : Launch) (dC : Nat → ClassId) (dI : Nat → Nat → Nat) (cs : ClassId × ClassId) (a n : Nat → Nat) (f : Nat → Nat → Int32) (sz : Nat) (hr0 : f 14 (x_lp n) = -1) (hB : x_bd n) (h1 : 0 < n 9)  : Met l yX3_takeBackLast wsX3_takeBackLast ({ frames := 2, cells := 0, slots := 0, locals := 43 }) (wrPc (dC, dI) vwCl (wX cs a n f) (tyl cs) sz [.ref (a 0)]) (wrQ (dC, dI) vwCl (wX cs a (x_lN n) f) none (va_A (wX cs a n f) sz)) 0 0 (va_A (wX cs a n f) sz) := by
  refine wr_of (cc := cX3_takeBackLast) (maxL := 3) (ret := none) (own := RX3) (by decide) rfl rfl (Nat.le_of_ble_eq_true rfl) ?_
  intro p e s m below meth c A hsz hAe hx hb hr hml hts hown hlocks hP hK hD hA hS ls hl
  have hl : lv_has ls 3 [(0, .ref (a 0))] := hl
  have hinX3 : ∀ w ∈ wsX30, w ∈ wsX3_takeBackLast := by decide +kernel
  obtain ⟨B1, B2, B3, B4, B5, B6, B7, B8, B9, B10, B11, B12, B13, B14, B15⟩ := id hB
  have hlp : x_last n = nI (x_lp n) := by simp [x_last, x_lp]; omega
  have hlq : x_lp n < n 2 := x_pos_lt (by omega) (by omega)
  refine lv_aload_n hx hb dX3_takeBackLast_0 rfl (lv_at hl 0 rfl) ?_
  refine va_get (D := (dC, dI)) (ci := 4) (v := .ref (a 2)) (C := RX3) (T := TX3) (N := 9) hx hb hts hinX3 hown hK hP 0 rfl rfl 1 (by decide) (hts (.fieldLink RX3 27 "RenameRows" "ring" "LRenameRows$Ring;") (by decide +kernel)) (fun _ h9 => h9) rfl dX3_takeBackLast_1 ?_
  refine W.callR (W.runV (As := []) (rest := []) ⟨hx, hb, hml, hown, hts⟩ (c_X2_lastPlace l dC dI cs a n f hB) (cwV 0 hts gX3_takeBackLast_X2_lastPlace rfl rfl rfl (by decide +kernel) ⟨Nat.le_of_ble_eq_true rfl, Nat.le_of_ble_eq_true rfl⟩) (rd_preV (q := (RX2, TX2, 10)) hP hK 2 rfl rfl) rfl rfl hl.1 rfl (lv_room (Nat.le_of_ble_eq_true rfl)) dX3_takeBackLast_4 ⟨Nat.zero_le _, Nat.zero_le _⟩) ?_
  refine W.eq (g2 := F0 m 7 ls (.int (x_last n) :: [])) rfl ?_
  refine tp_eq hlp ?_
  refine lv_istore_n (lv' := [(1, .int (nI (x_lp n))), (0, .ref (a 0))]) hx hb dX3_takeBackLast_7 rfl hl (by decide) rfl (fun ls hl => ?_)
  refine lv_aload_n hx hb dX3_takeBackLast_8 rfl (lv_at hl 1 rfl) ?_
  refine va_get (D := (dC, dI)) (ci := 4) (v := .ref (a 2)) (C := RX3) (T := TX3) (N := 9) hx hb hts hinX3 hown hK hP 0 rfl rfl 1 (by decide) (hts (.fieldLink RX3 27 "RenameRows" "ring" "LRenameRows$Ring;") (by decide +kernel)) (fun _ h9 => h9) rfl dX3_takeBackLast_9 ?_
  refine lv_iload_n hx hb dX3_takeBackLast_12 rfl (lv_at hl 0 rfl) ?_
  refine W.callR (W.runV (As := [.int (nI (x_lp n))]) (rest := []) ⟨hx, hb, hml, hown, hts⟩ (c_X2_registerAt l dC dI cs a n f (nI (x_lp n)) hB) (cwV 1 hts gX3_takeBackLast_X2_registerAt rfl rfl rfl (by decide +kernel) ⟨Nat.le_of_ble_eq_true rfl, Nat.le_of_ble_eq_true rfl⟩) (rd_preV (q := (RX2, TX2, 10)) hP hK 2 rfl rfl) rfl rfl hl.1 rfl (lv_room (Nat.le_of_ble_eq_true rfl)) dX3_takeBackLast_13 ⟨Nat.zero_le _, Nat.zero_le _⟩) ?_
  refine W.eq (g2 := F0 m 16 ls (.int (x_at 14 n f (nI (x_lp n))) :: [])) rfl ?_
  refine tp_eq (x_at_nI (by omega) (by omega)) ?_
  refine W.eq (g2 := F0 m 16 ls (.int (f 14 (x_lp n)) :: [])) rfl ?_
  refine lv_istore_n (lv' := [(2, .int (f 14 (x_lp n))), (1, .int (nI (x_lp n))), (0, .ref (a 0))]) hx hb dX3_takeBackLast_16 rfl hl (by decide) rfl (fun ls hl => ?_)
  refine lv_aload_n hx hb dX3_takeBackLast_17 rfl (lv_at hl 2 rfl) ?_
  refine lv_iload_n hx hb dX3_takeBackLast_18 rfl (lv_at hl 0 rfl) ?_
  refine W.callR (W.runV (As := [.int (f 14 (x_lp n))]) (rest := []) ⟨hx, hb, hml, hown, hts⟩ (c_X3_isRegister l dC dI cs a n f (f 14 (x_lp n)) hB) (cwV 1 hts gX3_takeBackLast_X3_isRegister rfl rfl rfl (by decide +kernel) ⟨Nat.le_of_ble_eq_true rfl, Nat.le_of_ble_eq_true rfl⟩) (rd_preV (q := (RX3, TX3, 9)) hP hK 0 rfl rfl) rfl rfl hl.1 rfl (lv_room (Nat.le_of_ble_eq_true rfl)) dX3_takeBackLast_19 ⟨Nat.zero_le _, Nat.zero_le _⟩) ?_
  refine W.eq (g2 := F0 m 22 ls (.int (b2i (inB (f 14 (x_lp n)) (n 0))) :: [])) rfl ?_
  refine lv_if_eq (tgt := 54) hx hb dX3_takeBackLast_22 (by decide) (fun c_1 => ?_) (fun c_1 => absurd (b2i_t c_1) (by rw [hr0, inB_m1]; decide))
  have c_1 : inB (f 14 (x_lp n)) (n 0) = false := b2i_f c_1
  refine lv_aload_n hx hb dX3_takeBackLast_54 rfl (lv_at hl 2 rfl) ?_
  refine va_get (D := (dC, dI)) (ci := 4) (v := .ref (a 2)) (C := RX3) (T := TX3) (N := 9) hx hb hts hinX3 hown hK hP 0 rfl rfl 1 (by decide) (hts (.fieldLink RX3 27 "RenameRows" "ring" "LRenameRows$Ring;") (by decide +kernel)) (fun _ h9 => h9) rfl dX3_takeBackLast_55 ?_
  refine wr_callv (va_runV (As := []) (rest := []) ⟨hx, hb, hml, hown, hts⟩ (c_X2_dropLast l dC dI cs a n f s.heap.size hB (by first | omega | assumption)) (cwV 0 hts gX3_takeBackLast_X2_dropLast rfl rfl rfl (by decide +kernel) ⟨Nat.le_of_ble_eq_true rfl, Nat.le_of_ble_eq_true rfl⟩) (wr_preV (q := (RX2, TX2, 10)) hP hK hD 2 rfl rfl) rfl rfl hl.1 rfl (lv_room (Nat.le_of_ble_eq_true rfl)) dX3_takeBackLast_58 ⟨Nat.zero_le _, Nat.zero_le _⟩) hS hD hA rfl (fun H locs hP hD hS => ?_)
  have hP : va_P (dC, dI) vwCl (wX cs a (un n 9 ((n 9) - 1)) f) H := hP
  have hD : va_D A (wX cs a (un n 9 ((n 9) - 1)) f) := hD
  have hP : va_P (dC, dI) vwCl (wX cs a (x_lN n) f) H := by
    have e9 : (wX cs a (un n 9 ((n 9) - 1)) f) = (wX cs a (x_lN n) f) := by rfl
    rw [← e9]; exact hP
  exact wr_vret hx hb hr hlocks hP hS dX3_takeBackLast_61

set_option maxHeartbeats 4000000 in
set_option maxRecDepth 100000 in
theorem c_X3_takeBackLast_r (l : Launch) (dC : Nat → ClassId) (dI : Nat → Nat → Nat) (cs : ClassId × ClassId) (a n : Nat → Nat) (f : Nat → Nat → Int32) (sz : Nat) (r q : Nat) (hr1 : f 14 (x_lp n) = nI r) (hq : f 12 (x_lp n) = nI q) (hB : x_bd n) (h1 : 0 < n 9) (h2 : r < n 0) (h3 : q < n 1) (h4 : ¬ f 7 q = 0) (h5 : n 7 < n 1)  : Met l yX3_takeBackLast wsX3_takeBackLast ({ frames := 2, cells := 0, slots := 0, locals := 43 }) (wrPc (dC, dI) vwCl (wX cs a n f) (tyl cs) sz [.ref (a 0)]) (wrQ (dC, dI) vwCl (wX cs a (x_lN (x_gN n f q)) (uf (x_gF n f q) 4 (upd (x_gF n f q 4) r (f 13 (x_lp n))))) none (va_A (wX cs a n f) sz)) 0 0 (va_A (wX cs a n f) sz) := by
  refine wr_of (cc := cX3_takeBackLast) (maxL := 3) (ret := none) (own := RX3) (by decide) rfl rfl (Nat.le_of_ble_eq_true rfl) ?_
  intro p e s m below meth c A hsz hAe hx hb hr hml hts hown hlocks hP hK hD hA hS ls hl
  have hl : lv_has ls 3 [(0, .ref (a 0))] := hl
  have hinX3 : ∀ w ∈ wsX30, w ∈ wsX3_takeBackLast := by decide +kernel
  obtain ⟨B1, B2, B3, B4, B5, B6, B7, B8, B9, B10, B11, B12, B13, B14, B15⟩ := id hB
  have hlp : x_last n = nI (x_lp n) := by simp [x_last, x_lp]; omega
  have hlq : x_lp n < n 2 := x_pos_lt (by omega) (by omega)
  refine lv_aload_n hx hb dX3_takeBackLast_0 rfl (lv_at hl 0 rfl) ?_
  refine va_get (D := (dC, dI)) (ci := 4) (v := .ref (a 2)) (C := RX3) (T := TX3) (N := 9) hx hb hts hinX3 hown hK hP 0 rfl rfl 1 (by decide) (hts (.fieldLink RX3 27 "RenameRows" "ring" "LRenameRows$Ring;") (by decide +kernel)) (fun _ h9 => h9) rfl dX3_takeBackLast_1 ?_
  refine W.callR (W.runV (As := []) (rest := []) ⟨hx, hb, hml, hown, hts⟩ (c_X2_lastPlace l dC dI cs a n f hB) (cwV 0 hts gX3_takeBackLast_X2_lastPlace rfl rfl rfl (by decide +kernel) ⟨Nat.le_of_ble_eq_true rfl, Nat.le_of_ble_eq_true rfl⟩) (rd_preV (q := (RX2, TX2, 10)) hP hK 2 rfl rfl) rfl rfl hl.1 rfl (lv_room (Nat.le_of_ble_eq_true rfl)) dX3_takeBackLast_4 ⟨Nat.zero_le _, Nat.zero_le _⟩) ?_
  refine W.eq (g2 := F0 m 7 ls (.int (x_last n) :: [])) rfl ?_
  refine tp_eq hlp ?_
  refine lv_istore_n (lv' := [(1, .int (nI (x_lp n))), (0, .ref (a 0))]) hx hb dX3_takeBackLast_7 rfl hl (by decide) rfl (fun ls hl => ?_)
  refine lv_aload_n hx hb dX3_takeBackLast_8 rfl (lv_at hl 1 rfl) ?_
  refine va_get (D := (dC, dI)) (ci := 4) (v := .ref (a 2)) (C := RX3) (T := TX3) (N := 9) hx hb hts hinX3 hown hK hP 0 rfl rfl 1 (by decide) (hts (.fieldLink RX3 27 "RenameRows" "ring" "LRenameRows$Ring;") (by decide +kernel)) (fun _ h9 => h9) rfl dX3_takeBackLast_9 ?_
  refine lv_iload_n hx hb dX3_takeBackLast_12 rfl (lv_at hl 0 rfl) ?_
  refine W.callR (W.runV (As := [.int (nI (x_lp n))]) (rest := []) ⟨hx, hb, hml, hown, hts⟩ (c_X2_registerAt l dC dI cs a n f (nI (x_lp n)) hB) (cwV 1 hts gX3_takeBackLast_X2_registerAt rfl rfl rfl (by decide +kernel) ⟨Nat.le_of_ble_eq_true rfl, Nat.le_of_ble_eq_true rfl⟩) (rd_preV (q := (RX2, TX2, 10)) hP hK 2 rfl rfl) rfl rfl hl.1 rfl (lv_room (Nat.le_of_ble_eq_true rfl)) dX3_takeBackLast_13 ⟨Nat.zero_le _, Nat.zero_le _⟩) ?_
  refine W.eq (g2 := F0 m 16 ls (.int (x_at 14 n f (nI (x_lp n))) :: [])) rfl ?_
  refine tp_eq (x_at_nI (by omega) (by omega)) ?_
  refine W.eq (g2 := F0 m 16 ls (.int (f 14 (x_lp n)) :: [])) rfl ?_
  refine tp_eq hr1 ?_
  refine lv_istore_n (lv' := [(2, .int (nI r)), (1, .int (nI (x_lp n))), (0, .ref (a 0))]) hx hb dX3_takeBackLast_16 rfl hl (by decide) rfl (fun ls hl => ?_)
  refine lv_aload_n hx hb dX3_takeBackLast_17 rfl (lv_at hl 2 rfl) ?_
  refine lv_iload_n hx hb dX3_takeBackLast_18 rfl (lv_at hl 0 rfl) ?_
  refine W.callR (W.runV (As := [.int (nI r)]) (rest := []) ⟨hx, hb, hml, hown, hts⟩ (c_X3_isRegister l dC dI cs a n f (nI r) hB) (cwV 1 hts gX3_takeBackLast_X3_isRegister rfl rfl rfl (by decide +kernel) ⟨Nat.le_of_ble_eq_true rfl, Nat.le_of_ble_eq_true rfl⟩) (rd_preV (q := (RX3, TX3, 9)) hP hK 0 rfl rfl) rfl rfl hl.1 rfl (lv_room (Nat.le_of_ble_eq_true rfl)) dX3_takeBackLast_19 ⟨Nat.zero_le _, Nat.zero_le _⟩) ?_
  refine W.eq (g2 := F0 m 22 ls (.int (b2i (inB (nI r) (n 0))) :: [])) rfl ?_
  refine lv_if_eq (tgt := 54) hx hb dX3_takeBackLast_22 (by decide) (fun c_1 => absurd (b2i_f c_1) (by rw [inB_nI (by omega) (by omega)]; simp; omega)) (fun c_1 => ?_)
  have c_1 : inB (nI r) (n 0) = true := b2i_t c_1
  refine lv_aload_n hx hb dX3_takeBackLast_25 rfl (lv_at hl 2 rfl) ?_
  refine va_get (D := (dC, dI)) (ci := 4) (v := .ref (a 1)) (C := RX3) (T := TX3) (N := 9) hx hb hts hinX3 hown hK hP 0 rfl rfl 0 (by decide) (hts (.fieldLink RX3 18 "RenameRows" "names" "LRenameRows$Names;") (by decide +kernel)) (fun _ h9 => h9) rfl dX3_takeBackLast_26 ?_
  refine lv_aload_n hx hb dX3_takeBackLast_29 rfl (lv_at hl 2 rfl) ?_
  refine va_get (D := (dC, dI)) (ci := 4) (v := .ref (a 2)) (C := RX3) (T := TX3) (N := 9) hx hb hts hinX3 hown hK hP 0 rfl rfl 1 (by decide) (hts (.fieldLink RX3 27 "RenameRows" "ring" "LRenameRows$Ring;") (by decide +kernel)) (fun _ h9 => h9) rfl dX3_takeBackLast_30 ?_
  refine lv_iload_n hx hb dX3_takeBackLast_33 rfl (lv_at hl 1 rfl) ?_
  refine W.callR (W.runV (As := [.int (nI (x_lp n))]) (rest := [.ref (a 1)]) ⟨hx, hb, hml, hown, hts⟩ (c_X2_givenAt l dC dI cs a n f (nI (x_lp n)) hB) (cwV 1 hts gX3_takeBackLast_X2_givenAt rfl rfl rfl (by decide +kernel) ⟨Nat.le_of_ble_eq_true rfl, Nat.le_of_ble_eq_true rfl⟩) (rd_preV (q := (RX2, TX2, 10)) hP hK 2 rfl rfl) rfl rfl hl.1 rfl (lv_room (Nat.le_of_ble_eq_true rfl)) dX3_takeBackLast_34 ⟨Nat.zero_le _, Nat.zero_le _⟩) ?_
  refine W.eq (g2 := F0 m 37 ls (.int (x_at 12 n f (nI (x_lp n))) :: [.ref (a 1)])) rfl ?_
  refine tp_eq (x_at_nI (by omega) (by omega)) ?_
  refine W.eq (g2 := F0 m 37 ls (.int (f 12 (x_lp n)) :: [.ref (a 1)])) rfl ?_
  refine tp_eq hq ?_
  refine wr_callv (va_runV (As := [.int (nI q)]) (rest := []) ⟨hx, hb, hml, hown, hts⟩ (c_X1_giveBack l dC dI cs a n f s.heap.size q hB (by first | omega | assumption | exact h4) (by first | omega | assumption | exact h4) (by first | omega | assumption | exact h4)) (cwV 1 hts gX3_takeBackLast_X1_giveBack rfl rfl rfl (by decide +kernel) ⟨Nat.le_of_ble_eq_true rfl, Nat.le_of_ble_eq_true rfl⟩) (wr_preV (q := (RX1, TX1, 5)) hP hK hD 1 rfl rfl) rfl rfl hl.1 rfl (lv_room (Nat.le_of_ble_eq_true rfl)) dX3_takeBackLast_37 ⟨Nat.zero_le _, Nat.zero_le _⟩) hS hD hA rfl (fun H locs hP hD hS => ?_)
  have hP : va_P (dC, dI) vwCl (wX cs a (x_gN n f q) (x_gF n f q)) H := hP
  have hD : va_D A (wX cs a (x_gN n f q) (x_gF n f q)) := hD
  have hB : x_bd (x_gN n f q) := by exact x_gN_bd hB (by omega)
  have kg0 : (x_gN n f q) 0 = n 0 := by (rw [x_gN_o (by decide)]; try rfl)
  have kg1 : (x_gN n f q) 1 = n 1 := by (rw [x_gN_o (by decide)]; try rfl)
  have kg2 : (x_gN n f q) 2 = n 2 := by (rw [x_gN_o (by decide)]; try rfl)
  have kg8 : (x_gN n f q) 8 = n 8 := by (rw [x_gN_o (by decide)]; try rfl)
  have kg9 : (x_gN n f q) 9 = n 9 := by (rw [x_gN_o (by decide)]; try rfl)
  have kg10 : (x_gN n f q) 10 = n 10 := by (rw [x_gN_o (by decide)]; try rfl)
  have hB0 := hB
  refine lv_aload_n hx hb dX3_takeBackLast_40 rfl (lv_at hl 2 rfl) ?_
  refine va_get (D := (dC, dI)) (ci := 4) (v := .ref (a 4)) (C := RX3) (T := TX3) (N := 9) hx hb hts hinX3 hown hK hP 0 rfl rfl 3 (by decide) (hts (.fieldLink RX3 38 "RenameRows" "nameNow" "[I") (by decide +kernel)) (fun _ h9 => h9) rfl dX3_takeBackLast_41 ?_
  refine lv_iload_n hx hb dX3_takeBackLast_44 rfl (lv_at hl 0 rfl) ?_
  refine lv_aload_n hx hb dX3_takeBackLast_45 rfl (lv_at hl 2 rfl) ?_
  refine va_get (D := (dC, dI)) (ci := 4) (v := .ref (a 2)) (C := RX3) (T := TX3) (N := 9) hx hb hts hinX3 hown hK hP 0 rfl rfl 1 (by decide) (hts (.fieldLink RX3 27 "RenameRows" "ring" "LRenameRows$Ring;") (by decide +kernel)) (fun _ h9 => h9) rfl dX3_takeBackLast_46 ?_
  refine lv_iload_n hx hb dX3_takeBackLast_49 rfl (lv_at hl 1 rfl) ?_
  refine W.callR (W.runV (As := [.int (nI (x_lp n))]) (rest := [.int (nI r), .ref (a 4)]) ⟨hx, hb, hml, hown, hts⟩ (c_X2_knownAt l dC dI cs a (x_gN n f q) (x_gF n f q) (nI (x_lp n)) hB) (cwV 1 hts gX3_takeBackLast_X2_knownAt rfl rfl rfl (by decide +kernel) ⟨Nat.le_of_ble_eq_true rfl, Nat.le_of_ble_eq_true rfl⟩) (rd_preV (q := (RX2, TX2, 10)) hP hK 2 rfl rfl) rfl rfl hl.1 rfl (lv_room (Nat.le_of_ble_eq_true rfl)) dX3_takeBackLast_50 ⟨Nat.zero_le _, Nat.zero_le _⟩) ?_
  refine W.eq (g2 := F0 m 53 ls (.int (x_at 13 (x_gN n f q) (x_gF n f q) (nI (x_lp n))) :: [.int (nI r), .ref (a 4)])) rfl ?_
  refine tp_eq (x_at_nI (by omega) (by omega)) ?_
  refine W.eq (g2 := F0 m 53 ls (.int ((x_gF n f q) 13 (x_lp n)) :: [.int (nI r), .ref (a 4)])) rfl ?_
  refine tp_eq (y := f 13 (x_lp n)) (by rw [x_gF_o (by decide) (by decide)]) ?_
  refine ar_st (D := (dC, dI)) (n := (x_gN n f q) 0) (f := (x_gF n f q) 4) hx hb hK hP hD hS 4 0 rfl rfl (by omega) (by omega) dX3_takeBackLast_53 (fun H locs hP hD hS => ?_)
  have hP : va_P (dC, dI) vwCl (wX cs a (x_gN n f q) (uf (x_gF n f q) 4 (upd ((x_gF n f q) 4) r (f 13 (x_lp n))))) H := hP
  have hD : va_D A (wX cs a (x_gN n f q) (uf (x_gF n f q) 4 (upd ((x_gF n f q) 4) r (f 13 (x_lp n))))) := hD
  refine lv_aload_n hx hb dX3_takeBackLast_54 rfl (lv_at hl 2 rfl) ?_
  refine va_get (D := (dC, dI)) (ci := 4) (v := .ref (a 2)) (C := RX3) (T := TX3) (N := 9) hx hb hts hinX3 hown hK hP 0 rfl rfl 1 (by decide) (hts (.fieldLink RX3 27 "RenameRows" "ring" "LRenameRows$Ring;") (by decide +kernel)) (fun _ h9 => h9) rfl dX3_takeBackLast_55 ?_
  refine wr_callv (va_runV (As := []) (rest := []) ⟨hx, hb, hml, hown, hts⟩ (c_X2_dropLast l dC dI cs a (x_gN n f q) (uf (x_gF n f q) 4 (upd ((x_gF n f q) 4) r (f 13 (x_lp n)))) H.size hB (by first | omega | assumption | exact h4)) (cwV 0 hts gX3_takeBackLast_X2_dropLast rfl rfl rfl (by decide +kernel) ⟨Nat.le_of_ble_eq_true rfl, Nat.le_of_ble_eq_true rfl⟩) (wr_preV (q := (RX2, TX2, 10)) hP hK hD 2 rfl rfl) rfl rfl hl.1 rfl (lv_room (Nat.le_of_ble_eq_true rfl)) dX3_takeBackLast_58 ⟨Nat.zero_le _, Nat.zero_le _⟩) hS hD hA rfl (fun H locs hP hD hS => ?_)
  have hP : va_P (dC, dI) vwCl (wX cs a (un (x_gN n f q) 9 (((x_gN n f q) 9) - 1)) (uf (x_gF n f q) 4 (upd ((x_gF n f q) 4) r (f 13 (x_lp n))))) H := hP
  have hD : va_D A (wX cs a (un (x_gN n f q) 9 (((x_gN n f q) 9) - 1)) (uf (x_gF n f q) 4 (upd ((x_gF n f q) 4) r (f 13 (x_lp n))))) := hD
  have hP : va_P (dC, dI) vwCl (wX cs a (x_lN (x_gN n f q)) (uf (x_gF n f q) 4 (upd (x_gF n f q 4) r (f 13 (x_lp n))))) H := by
    have e9 : (wX cs a (un (x_gN n f q) 9 (((x_gN n f q) 9) - 1)) (uf (x_gF n f q) 4 (upd ((x_gF n f q) 4) r (f 13 (x_lp n))))) = (wX cs a (x_lN (x_gN n f q)) (uf (x_gF n f q) 4 (upd (x_gF n f q 4) r (f 13 (x_lp n))))) := by rfl
    rw [← e9]; exact hP
  exact wr_vret hx hb hr hlocks hP hS dX3_takeBackLast_61
end
section
set_option maxRecDepth 100000 in
theorem c_X3_finishOldest (l : Launch) (dC : Nat → ClassId) (dI : Nat → Nat → Nat) (cs : ClassId × ClassId) (a n : Nat → Nat) (f : Nat → Nat → Int32) (sz : Nat) (hB : x_bd n) (h1 : 0 < n 9) (hs : x_fs n f) : Met l yX3_finishOldest wsX3_finishOldest ({ frames := 2, cells := 0, slots := 0, locals := 43 }) (wrPc (dC, dI) vwCl (wX cs a n f) (tyl cs) sz [.ref (a 0)]) (wrQ (dC, dI) vwCl (wX cs a (x_fiN n f) (x_fiF n f)) none (va_A (wX cs a n f) sz)) 0 0 (va_A (wX cs a n f) sz) := by
  obtain ⟨B1, B2, B3, B4, B5, B6, B7, B8, B9, B10, B11, B12, B13, B14, B15⟩ := id hB
  rcases hs with h0 | ⟨r, q, e1, e2, e3, e4, e5, e6⟩
  · have e : x_fiN n f = x_dN n ∧ x_fiF n f = f := by simp [x_fiN, x_fiF, h0]
    rw [e.1, e.2]
    exact c_X3_finishOldest_0 l dC dI cs a n f sz h0 hB h1
  · have e : x_fiN n f = x_dN (x_gN n (uf f 5 (upd (f 5) r (f 12 (n 8)))) q) ∧ x_fiF n f = x_gF n (uf f 5 (upd (f 5) r (f 12 (n 8)))) q := by
      simp [x_fiN, x_fiF, x_f5, e1, e3, nI_m1 (show r < 2 ^ 31 by omega), cl32_nI (show r < 2 ^ 31 by omega), cl32_nI (show q < 2 ^ 31 by omega)]
    rw [e.1, e.2]
    exact c_X3_finishOldest_r l dC dI cs a n f sz r q e1 e3 hB h1 e2 e4 e5 e6
set_option maxRecDepth 100000 in
theorem c_X3_takeBackLast (l : Launch) (dC : Nat → ClassId) (dI : Nat → Nat → Nat) (cs : ClassId × ClassId) (a n : Nat → Nat) (f : Nat → Nat → Int32) (sz : Nat) (hB : x_bd n) (h1 : 0 < n 9) (hs : x_ts n f) : Met l yX3_takeBackLast wsX3_takeBackLast ({ frames := 2, cells := 0, slots := 0, locals := 43 }) (wrPc (dC, dI) vwCl (wX cs a n f) (tyl cs) sz [.ref (a 0)]) (wrQ (dC, dI) vwCl (wX cs a (x_tbN n f) (x_tbF n f)) none (va_A (wX cs a n f) sz)) 0 0 (va_A (wX cs a n f) sz) := by
  obtain ⟨B1, B2, B3, B4, B5, B6, B7, B8, B9, B10, B11, B12, B13, B14, B15⟩ := id hB
  rcases hs with h0 | ⟨r, q, e1, e2, e3, e4, e5, e6⟩
  · have e : x_tbN n f = x_lN n ∧ x_tbF n f = f := by simp [x_tbN, x_tbF, h0]
    rw [e.1, e.2]
    exact c_X3_takeBackLast_0 l dC dI cs a n f sz h0 hB h1
  · have e : x_tbN n f = x_lN (x_gN n f q) ∧ x_tbF n f = uf (x_gF n f q) 4 (upd (x_gF n f q 4) r (f 13 (x_lp n))) := by
      simp [x_tbN, x_tbF, e1, e3, nI_m1 (show r < 2 ^ 31 by omega), cl32_nI (show r < 2 ^ 31 by omega), cl32_nI (show q < 2 ^ 31 by omega)]
    rw [e.1, e.2]
    exact c_X3_takeBackLast_r l dC dI cs a n f sz r q e1 e3 hB h1 e2 e4 e5 e6

set_option maxHeartbeats 4000000 in
set_option maxRecDepth 100000 in
theorem c_X3_selected (l : Launch) (dC : Nat → ClassId) (dI : Nat → Nat → Nat) (cs : ClassId × ClassId) (a n : Nat → Nat) (f : Nat → Nat → Int32) (j : Nat) (hB : x_bd n) (h1 : j < 8)  : Met l yX3_selected wsX3_selected ({ frames := 0, cells := 0, slots := 0, locals := 0 }) (rdPc (dC, dI) vwCl (wX cs a n f) (tyl cs) [.ref (a 0), .int (nI j)]) (QcRead (f 6 j)) 0 0 (fun _ => False) := by
  refine rd_of (cc := cX3_selected) (maxL := 2) (ret := (some .int)) (own := RX3) (by decide) rfl rfl (Nat.le_of_ble_eq_true rfl) ?_
  intro p e s m below meth c hx hb hr hml hts hown hlocks hP hK ls hl
  have hl : lv_has ls 2 [(0, .ref (a 0)), (1, .int (nI j))] := hl
  have hinX3 : ∀ w ∈ wsX30, w ∈ wsX3_selected := by decide +kernel
  obtain ⟨B1, B2, B3, B4, B5, B6, B7, B8, B9, B10, B11, B12, B13, B14, B15⟩ := id hB
  refine lv_iload_n hx hb dX3_selected_0 rfl (lv_at hl 1 rfl) ?_
  refine lv_if_lt (tgt := 10) hx hb dX3_selected_1 (by decide) (fun c => absurd c (nI_pos (by omega))) (fun _ => ?_)
  refine lv_iload_n hx hb dX3_selected_4 rfl (lv_at hl 1 rfl) ?_
  refine lv_bipush (v := nI 8) hx hb dX3_selected_5 (by decide) ?_
  refine lv_icmp_lt (tgt := 20) hx hb dX3_selected_7 (by decide) (fun c_2 => ?_) (fun c_2 => absurd ((nI_ltI (by omega) (by omega)).mpr (by omega)) c_2)
  have c_2 : j < 8 := (nI_ltI (by omega) (by omega)).mp c_2
  refine lv_aload_n hx hb dX3_selected_20 rfl (lv_at hl 0 rfl) ?_
  refine va_get (D := (dC, dI)) (ci := 4) (v := .ref (a 6)) (C := RX3) (T := TX3) (N := 9) hx hb hts hinX3 hown hK hP 0 rfl rfl 5 (by decide) (hts (.fieldLink RX3 45 "RenameRows" "wentTo" "[I") (by decide +kernel)) (fun _ h9 => h9) rfl dX3_selected_21 ?_
  refine lv_iload_n hx hb dX3_selected_24 rfl (lv_at hl 1 rfl) ?_
  refine ar_ld (D := (dC, dI)) (n := 8) (f := f 6) hx hb hK hP 6 0 rfl rfl (by omega) (by omega) dX3_selected_25 ?_
  exact rd_iret hx hb hr hlocks dX3_selected_26

set_option maxHeartbeats 4000000 in
set_option maxRecDepth 100000 in
theorem c_X3_name (l : Launch) (dC : Nat → ClassId) (dI : Nat → Nat → Nat) (cs : ClassId × ClassId) (a n : Nat → Nat) (f : Nat → Nat → Int32) (j : Nat) (hB : x_bd n) (h1 : j < n 0)  : Met l yX3_name wsX3_name ({ frames := 1, cells := 0, slots := 0, locals := 21 }) (rdPc (dC, dI) vwCl (wX cs a n f) (tyl cs) [.ref (a 0), .int (nI j)]) (QcRead (f 4 j)) 0 0 (fun _ => False) := by
  refine rd_of (cc := cX3_name) (maxL := 2) (ret := (some .int)) (own := RX3) (by decide) rfl rfl (Nat.le_of_ble_eq_true rfl) ?_
  intro p e s m below meth c hx hb hr hml hts hown hlocks hP hK ls hl
  have hl : lv_has ls 2 [(0, .ref (a 0)), (1, .int (nI j))] := hl
  have hinX3 : ∀ w ∈ wsX30, w ∈ wsX3_name := by decide +kernel
  obtain ⟨B1, B2, B3, B4, B5, B6, B7, B8, B9, B10, B11, B12, B13, B14, B15⟩ := id hB
  refine lv_aload_n hx hb dX3_name_0 rfl (lv_at hl 0 rfl) ?_
  refine lv_iload_n hx hb dX3_name_1 rfl (lv_at hl 1 rfl) ?_
  refine W.callR (W.runV (As := [.int (nI j)]) (rest := []) ⟨hx, hb, hml, hown, hts⟩ (c_X3_isRegister l dC dI cs a n f (nI j) hB) (cwV 1 hts gX3_name_X3_isRegister rfl rfl rfl (by decide +kernel) ⟨Nat.le_of_ble_eq_true rfl, Nat.le_of_ble_eq_true rfl⟩) (rd_preV (q := (RX3, TX3, 9)) hP hK 0 rfl rfl) rfl rfl hl.1 rfl (lv_room (Nat.le_of_ble_eq_true rfl)) dX3_name_2 ⟨Nat.zero_le _, Nat.zero_le _⟩) ?_
  refine W.eq (g2 := F0 m 5 ls (.int (b2i (inB (nI j) (n 0))) :: [])) rfl ?_
  refine lv_if_ne (tgt := 18) hx hb dX3_name_5 (by decide) (fun c_1 => ?_) (fun c_1 => absurd (b2i_f c_1) (by rw [inB_nI (by omega) (by omega)]; simp; omega))
  have c_1 : inB (nI j) (n 0) = true := b2i_t c_1
  refine lv_aload_n hx hb dX3_name_18 rfl (lv_at hl 0 rfl) ?_
  refine va_get (D := (dC, dI)) (ci := 4) (v := .ref (a 4)) (C := RX3) (T := TX3) (N := 9) hx hb hts hinX3 hown hK hP 0 rfl rfl 3 (by decide) (hts (.fieldLink RX3 38 "RenameRows" "nameNow" "[I") (by decide +kernel)) (fun _ h9 => h9) rfl dX3_name_19 ?_
  refine lv_iload_n hx hb dX3_name_22 rfl (lv_at hl 1 rfl) ?_
  refine ar_ld (D := (dC, dI)) (n := n 0) (f := f 4) hx hb hK hP 4 0 rfl rfl (by omega) (by omega) dX3_name_23 ?_
  exact rd_iret hx hb hr hlocks dX3_name_24

set_option maxHeartbeats 4000000 in
set_option maxRecDepth 100000 in
theorem c_X3_sure (l : Launch) (dC : Nat → ClassId) (dI : Nat → Nat → Nat) (cs : ClassId × ClassId) (a n : Nat → Nat) (f : Nat → Nat → Int32) (j : Nat) (hB : x_bd n) (h1 : j < n 0)  : Met l yX3_sure wsX3_sure ({ frames := 1, cells := 0, slots := 0, locals := 21 }) (rdPc (dC, dI) vwCl (wX cs a n f) (tyl cs) [.ref (a 0), .int (nI j)]) (QcRead (f 5 j)) 0 0 (fun _ => False) := by
  refine rd_of (cc := cX3_sure) (maxL := 2) (ret := (some .int)) (own := RX3) (by decide) rfl rfl (Nat.le_of_ble_eq_true rfl) ?_
  intro p e s m below meth c hx hb hr hml hts hown hlocks hP hK ls hl
  have hl : lv_has ls 2 [(0, .ref (a 0)), (1, .int (nI j))] := hl
  have hinX3 : ∀ w ∈ wsX30, w ∈ wsX3_sure := by decide +kernel
  obtain ⟨B1, B2, B3, B4, B5, B6, B7, B8, B9, B10, B11, B12, B13, B14, B15⟩ := id hB
  refine lv_aload_n hx hb dX3_sure_0 rfl (lv_at hl 0 rfl) ?_
  refine lv_iload_n hx hb dX3_sure_1 rfl (lv_at hl 1 rfl) ?_
  refine W.callR (W.runV (As := [.int (nI j)]) (rest := []) ⟨hx, hb, hml, hown, hts⟩ (c_X3_isRegister l dC dI cs a n f (nI j) hB) (cwV 1 hts gX3_sure_X3_isRegister rfl rfl rfl (by decide +kernel) ⟨Nat.le_of_ble_eq_true rfl, Nat.le_of_ble_eq_true rfl⟩) (rd_preV (q := (RX3, TX3, 9)) hP hK 0 rfl rfl) rfl rfl hl.1 rfl (lv_room (Nat.le_of_ble_eq_true rfl)) dX3_sure_2 ⟨Nat.zero_le _, Nat.zero_le _⟩) ?_
  refine W.eq (g2 := F0 m 5 ls (.int (b2i (inB (nI j) (n 0))) :: [])) rfl ?_
  refine lv_if_ne (tgt := 18) hx hb dX3_sure_5 (by decide) (fun c_1 => ?_) (fun c_1 => absurd (b2i_f c_1) (by rw [inB_nI (by omega) (by omega)]; simp; omega))
  have c_1 : inB (nI j) (n 0) = true := b2i_t c_1
  refine lv_aload_n hx hb dX3_sure_18 rfl (lv_at hl 0 rfl) ?_
  refine va_get (D := (dC, dI)) (ci := 4) (v := .ref (a 5)) (C := RX3) (T := TX3) (N := 9) hx hb hts hinX3 hown hK hP 0 rfl rfl 4 (by decide) (hts (.fieldLink RX3 42 "RenameRows" "nameSure" "[I") (by decide +kernel)) (fun _ h9 => h9) rfl dX3_sure_19 ?_
  refine lv_iload_n hx hb dX3_sure_22 rfl (lv_at hl 1 rfl) ?_
  refine ar_ld (D := (dC, dI)) (n := n 0) (f := f 5) hx hb hK hP 5 0 rfl rfl (by omega) (by omega) dX3_sure_23 ?_
  exact rd_iret hx hb hr hlocks dX3_sure_24

set_option maxHeartbeats 4000000 in
set_option maxRecDepth 100000 in
theorem c_X3_shares (l : Launch) (dC : Nat → ClassId) (dI : Nat → Nat → Nat) (cs : ClassId × ClassId) (a n : Nat → Nat) (f : Nat → Nat → Int32) (j : Nat) (hB : x_bd n) (h1 : j < n 1)  : Met l yX3_shares wsX3_shares ({ frames := 2, cells := 0, slots := 0, locals := 42 }) (rdPc (dC, dI) vwCl (wX cs a n f) (tyl cs) [.ref (a 0), .int (nI j)]) (QcRead (f 7 j)) 0 0 (fun _ => False) := by
  refine rd_of (cc := cX3_shares) (maxL := 2) (ret := (some .int)) (own := RX3) (by decide) rfl rfl (Nat.le_of_ble_eq_true rfl) ?_
  intro p e s m below meth c hx hb hr hml hts hown hlocks hP hK ls hl
  have hl : lv_has ls 2 [(0, .ref (a 0)), (1, .int (nI j))] := hl
  have hinX3 : ∀ w ∈ wsX30, w ∈ wsX3_shares := by decide +kernel
  obtain ⟨B1, B2, B3, B4, B5, B6, B7, B8, B9, B10, B11, B12, B13, B14, B15⟩ := id hB
  refine lv_aload_n hx hb dX3_shares_0 rfl (lv_at hl 0 rfl) ?_
  refine va_get (D := (dC, dI)) (ci := 4) (v := .ref (a 1)) (C := RX3) (T := TX3) (N := 9) hx hb hts hinX3 hown hK hP 0 rfl rfl 0 (by decide) (hts (.fieldLink RX3 18 "RenameRows" "names" "LRenameRows$Names;") (by decide +kernel)) (fun _ h9 => h9) rfl dX3_shares_1 ?_
  refine lv_iload_n hx hb dX3_shares_4 rfl (lv_at hl 1 rfl) ?_
  refine W.callR (W.runV (As := [.int (nI j)]) (rest := []) ⟨hx, hb, hml, hown, hts⟩ (c_X1_isName l dC dI cs a n f (nI j) hB) (cwV 1 hts gX3_shares_X1_isName rfl rfl rfl (by decide +kernel) ⟨Nat.le_of_ble_eq_true rfl, Nat.le_of_ble_eq_true rfl⟩) (rd_preV (q := (RX1, TX1, 5)) hP hK 1 rfl rfl) rfl rfl hl.1 rfl (lv_room (Nat.le_of_ble_eq_true rfl)) dX3_shares_5 ⟨Nat.zero_le _, Nat.zero_le _⟩) ?_
  refine W.eq (g2 := F0 m 8 ls (.int (b2i (inB (nI j) (n 1))) :: [])) rfl ?_
  refine lv_if_ne (tgt := 21) hx hb dX3_shares_8 (by decide) (fun c_1 => ?_) (fun c_1 => absurd (b2i_f c_1) (by rw [inB_nI (by omega) (by omega)]; simp; omega))
  have c_1 : inB (nI j) (n 1) = true := b2i_t c_1
  refine lv_aload_n hx hb dX3_shares_21 rfl (lv_at hl 0 rfl) ?_
  refine va_get (D := (dC, dI)) (ci := 4) (v := .ref (a 1)) (C := RX3) (T := TX3) (N := 9) hx hb hts hinX3 hown hK hP 0 rfl rfl 0 (by decide) (hts (.fieldLink RX3 18 "RenameRows" "names" "LRenameRows$Names;") (by decide +kernel)) (fun _ h9 => h9) rfl dX3_shares_22 ?_
  refine lv_iload_n hx hb dX3_shares_25 rfl (lv_at hl 1 rfl) ?_
  refine W.callR (W.runV (As := [.int (nI j)]) (rest := []) ⟨hx, hb, hml, hown, hts⟩ (c_X1_sharesOf l dC dI cs a n f (nI j) hB) (cwV 1 hts gX3_shares_X1_sharesOf rfl rfl rfl (by decide +kernel) ⟨Nat.le_of_ble_eq_true rfl, Nat.le_of_ble_eq_true rfl⟩) (rd_preV (q := (RX1, TX1, 5)) hP hK 1 rfl rfl) rfl rfl hl.1 rfl (lv_room (Nat.le_of_ble_eq_true rfl)) dX3_shares_26 ⟨Nat.zero_le _, Nat.zero_le _⟩) ?_
  refine W.eq (g2 := F0 m 29 ls (.int (x_sh n f (nI j)) :: [])) rfl ?_
  refine tp_eq (show _ = (f 7 j) by rw [x_sh, inB_nI (by omega) (by omega), cl32_nI (by omega)]; simp; omega) ?_
  exact rd_iret hx hb hr hlocks dX3_shares_29

set_option maxHeartbeats 4000000 in
set_option maxRecDepth 100000 in
theorem c_X3_queue (l : Launch) (dC : Nat → ClassId) (dI : Nat → Nat → Nat) (cs : ClassId × ClassId) (a n : Nat → Nat) (f : Nat → Nat → Int32) (j : Nat) (hB : x_bd n) (h1 : j < n 7)  : Met l yX3_queue wsX3_queue ({ frames := 2, cells := 0, slots := 0, locals := 43 }) (rdPc (dC, dI) vwCl (wX cs a n f) (tyl cs) [.ref (a 0), .int (nI j)]) (QcRead (f 9 (x_slot n j))) 0 0 (fun _ => False) := by
  refine rd_of (cc := cX3_queue) (maxL := 2) (ret := (some .int)) (own := RX3) (by decide) rfl rfl (Nat.le_of_ble_eq_true rfl) ?_
  intro p e s m below meth c hx hb hr hml hts hown hlocks hP hK ls hl
  have hl : lv_has ls 2 [(0, .ref (a 0)), (1, .int (nI j))] := hl
  have hinX3 : ∀ w ∈ wsX30, w ∈ wsX3_queue := by decide +kernel
  obtain ⟨B1, B2, B3, B4, B5, B6, B7, B8, B9, B10, B11, B12, B13, B14, B15⟩ := id hB
  refine lv_iload_n hx hb dX3_queue_0 rfl (lv_at hl 1 rfl) ?_
  refine lv_if_lt (tgt := 15) hx hb dX3_queue_1 (by decide) (fun c => absurd c (nI_pos (by omega))) (fun _ => ?_)
  refine lv_iload_n hx hb dX3_queue_4 rfl (lv_at hl 1 rfl) ?_
  refine lv_aload_n hx hb dX3_queue_5 rfl (lv_at hl 0 rfl) ?_
  refine va_get (D := (dC, dI)) (ci := 4) (v := .ref (a 1)) (C := RX3) (T := TX3) (N := 9) hx hb hts hinX3 hown hK hP 0 rfl rfl 0 (by decide) (hts (.fieldLink RX3 18 "RenameRows" "names" "LRenameRows$Names;") (by decide +kernel)) (fun _ h9 => h9) rfl dX3_queue_6 ?_
  refine W.callR (W.runV (As := []) (rest := [.int (nI j)]) ⟨hx, hb, hml, hown, hts⟩ (c_X1_freeCount l dC dI cs a n f hB) (cwV 0 hts gX3_queue_X1_freeCount rfl rfl rfl (by decide +kernel) ⟨Nat.le_of_ble_eq_true rfl, Nat.le_of_ble_eq_true rfl⟩) (rd_preV (q := (RX1, TX1, 5)) hP hK 1 rfl rfl) rfl rfl hl.1 rfl (lv_room (Nat.le_of_ble_eq_true rfl)) dX3_queue_9 ⟨Nat.zero_le _, Nat.zero_le _⟩) ?_
  refine W.eq (g2 := F0 m 12 ls (.int (nI (n 7)) :: [.int (nI j)])) rfl ?_
  refine lv_icmp_lt (tgt := 25) hx hb dX3_queue_12 (by decide) (fun c_2 => ?_) (fun c_2 => absurd ((nI_ltI (by omega) (by omega)).mpr (by omega)) c_2)
  have c_2 : j < (n 7) := (nI_ltI (by omega) (by omega)).mp c_2
  refine lv_aload_n hx hb dX3_queue_25 rfl (lv_at hl 0 rfl) ?_
  refine va_get (D := (dC, dI)) (ci := 4) (v := .ref (a 1)) (C := RX3) (T := TX3) (N := 9) hx hb hts hinX3 hown hK hP 0 rfl rfl 0 (by decide) (hts (.fieldLink RX3 18 "RenameRows" "names" "LRenameRows$Names;") (by decide +kernel)) (fun _ h9 => h9) rfl dX3_queue_26 ?_
  refine lv_iload_n hx hb dX3_queue_29 rfl (lv_at hl 1 rfl) ?_
  refine W.callR (W.runV (As := [.int (nI j)]) (rest := []) ⟨hx, hb, hml, hown, hts⟩ (c_X1_freeAt l dC dI cs a n f (nI j) hB) (cwV 1 hts gX3_queue_X1_freeAt rfl rfl rfl (by decide +kernel) ⟨Nat.le_of_ble_eq_true rfl, Nat.le_of_ble_eq_true rfl⟩) (rd_preV (q := (RX1, TX1, 5)) hP hK 1 rfl rfl) rfl rfl hl.1 rfl (lv_room (Nat.le_of_ble_eq_true rfl)) dX3_queue_30 ⟨Nat.zero_le _, Nat.zero_le _⟩) ?_
  refine W.eq (g2 := F0 m 33 ls (.int (x_fa n f (nI j)) :: [])) rfl ?_
  refine tp_eq (show _ = (f 9 (x_slot n j)) by rw [x_fa, inB_nI (by omega) (by omega), cl32_nI (by omega)]; simp; omega) ?_
  exact rd_iret hx hb hr hlocks dX3_queue_33

set_option maxHeartbeats 4000000 in
set_option maxRecDepth 100000 in
theorem c_X3_row (l : Launch) (dC : Nat → ClassId) (dI : Nat → Nat → Nat) (cs : ClassId × ClassId) (a n : Nat → Nat) (f : Nat → Nat → Int32) (j : Nat) (w : Nat) (hB : x_bd n) (h1 : j < n 2) (h2 : w < 7) (h3 : x_holds n (nI j) = true)  : Met l yX3_row wsX3_row ({ frames := 2, cells := 0, slots := 0, locals := 42 }) (rdPc (dC, dI) vwCl (wX cs a n f) (tyl cs) [.ref (a 0), .int (nI j), .int (nI w)]) (QcRead (f (10 + w) j)) 0 0 (fun _ => False) := by
  refine rd_of (cc := cX3_row) (maxL := 3) (ret := (some .int)) (own := RX3) (by decide) rfl rfl (Nat.le_of_ble_eq_true rfl) ?_
  intro p e s m below meth c hx hb hr hml hts hown hlocks hP hK ls hl
  have hl : lv_has ls 3 [(0, .ref (a 0)), (1, .int (nI j)), (2, .int (nI w))] := hl
  have hinX3 : ∀ w ∈ wsX30, w ∈ wsX3_row := by decide +kernel
  obtain ⟨B1, B2, B3, B4, B5, B6, B7, B8, B9, B10, B11, B12, B13, B14, B15⟩ := id hB
  refine lv_aload_n hx hb dX3_row_0 rfl (lv_at hl 0 rfl) ?_
  refine va_get (D := (dC, dI)) (ci := 4) (v := .ref (a 2)) (C := RX3) (T := TX3) (N := 9) hx hb hts hinX3 hown hK hP 0 rfl rfl 1 (by decide) (hts (.fieldLink RX3 27 "RenameRows" "ring" "LRenameRows$Ring;") (by decide +kernel)) (fun _ h9 => h9) rfl dX3_row_1 ?_
  refine lv_iload_n hx hb dX3_row_4 rfl (lv_at hl 1 rfl) ?_
  refine W.callR (W.runV (As := [.int (nI j)]) (rest := []) ⟨hx, hb, hml, hown, hts⟩ (c_X2_isPlace l dC dI cs a n f (nI j) hB) (cwV 1 hts gX3_row_X2_isPlace rfl rfl rfl (by decide +kernel) ⟨Nat.le_of_ble_eq_true rfl, Nat.le_of_ble_eq_true rfl⟩) (rd_preV (q := (RX2, TX2, 10)) hP hK 2 rfl rfl) rfl rfl hl.1 rfl (lv_room (Nat.le_of_ble_eq_true rfl)) dX3_row_5 ⟨Nat.zero_le _, Nat.zero_le _⟩) ?_
  refine W.eq (g2 := F0 m 8 ls (.int (b2i (inB (nI j) (n 2))) :: [])) rfl ?_
  refine lv_if_ne (tgt := 21) hx hb dX3_row_8 (by decide) (fun c_1 => ?_) (fun c_1 => absurd (b2i_f c_1) (by rw [inB_nI (by omega) (by omega)]; simp; omega))
  have c_1 : inB (nI j) (n 2) = true := b2i_t c_1
  refine lv_aload_n hx hb dX3_row_21 rfl (lv_at hl 0 rfl) ?_
  refine va_get (D := (dC, dI)) (ci := 4) (v := .ref (a 2)) (C := RX3) (T := TX3) (N := 9) hx hb hts hinX3 hown hK hP 0 rfl rfl 1 (by decide) (hts (.fieldLink RX3 27 "RenameRows" "ring" "LRenameRows$Ring;") (by decide +kernel)) (fun _ h9 => h9) rfl dX3_row_22 ?_
  refine lv_iload_n hx hb dX3_row_25 rfl (lv_at hl 1 rfl) ?_
  refine W.callR (W.runV (As := [.int (nI j)]) (rest := []) ⟨hx, hb, hml, hown, hts⟩ (c_X2_holdsRow l dC dI cs a n f (nI j) hB) (cwV 1 hts gX3_row_X2_holdsRow rfl rfl rfl (by decide +kernel) ⟨Nat.le_of_ble_eq_true rfl, Nat.le_of_ble_eq_true rfl⟩) (rd_preV (q := (RX2, TX2, 10)) hP hK 2 rfl rfl) rfl rfl hl.1 rfl (lv_room (Nat.le_of_ble_eq_true rfl)) dX3_row_26 ⟨Nat.zero_le _, Nat.zero_le _⟩) ?_
  refine W.eq (g2 := F0 m 29 ls (.int (b2i (x_holds n (nI j))) :: [])) rfl ?_
  refine lv_if_ne (tgt := 42) hx hb dX3_row_29 (by decide) (fun c_2 => ?_) (fun c_2 => absurd (b2i_f c_2) (by rw [h3]; decide))
  have c_2 : x_holds n (nI j) = true := b2i_t c_2
  refine lv_iload_n hx hb dX3_row_42 rfl (lv_at hl 2 rfl) ?_
  rcases (show w = 0 ∨ w = 1 ∨ w = 2 ∨ w = 3 ∨ w = 4 ∨ w = 5 ∨ w = 6 by omega) with rfl | rfl | rfl | rfl | rfl | rfl | rfl
  · refine lv_tableIn (tgt := 84) (off := 41) hx hb dX3_row_43 (by decide) (by decide) (by decide) (by decide) ?_
    refine lv_aload_n hx hb dX3_row_84 rfl (lv_at hl 0 rfl) ?_
    refine va_get (D := (dC, dI)) (ci := 4) (v := .ref (a 2)) (C := RX3) (T := TX3) (N := 9) hx hb hts hinX3 hown hK hP 0 rfl rfl 1 (by decide) (hts (.fieldLink RX3 27 "RenameRows" "ring" "LRenameRows$Ring;") (by decide +kernel)) (fun _ h9 => h9) rfl dX3_row_85 ?_
    refine lv_iload_n hx hb dX3_row_88 rfl (lv_at hl 1 rfl) ?_
    refine W.callR (W.runV (As := [.int (nI j)]) (rest := []) ⟨hx, hb, hml, hown, hts⟩ (c_X2_readAAt l dC dI cs a n f (nI j) hB) (cwV 1 hts gX3_row_X2_readAAt rfl rfl rfl (by decide +kernel) ⟨Nat.le_of_ble_eq_true rfl, Nat.le_of_ble_eq_true rfl⟩) (rd_preV (q := (RX2, TX2, 10)) hP hK 2 rfl rfl) rfl rfl hl.1 rfl (lv_room (Nat.le_of_ble_eq_true rfl)) dX3_row_89 ⟨Nat.zero_le _, Nat.zero_le _⟩) ?_
    refine W.eq (g2 := F0 m 92 ls (.int (x_at 10 n f (nI j)) :: [])) rfl ?_
    refine tp_eq (x_at_nI (by omega) (by omega)) ?_
    refine W.eq (g2 := F0 m 92 ls (.int (f 10 j) :: [])) rfl ?_
    refine tp_eq (show _ = (f (10 + 0) j) by rfl) ?_
    exact rd_iret hx hb hr hlocks dX3_row_92
  · refine lv_tableIn (tgt := 93) (off := 50) hx hb dX3_row_43 (by decide) (by decide) (by decide) (by decide) ?_
    refine lv_aload_n hx hb dX3_row_93 rfl (lv_at hl 0 rfl) ?_
    refine va_get (D := (dC, dI)) (ci := 4) (v := .ref (a 2)) (C := RX3) (T := TX3) (N := 9) hx hb hts hinX3 hown hK hP 0 rfl rfl 1 (by decide) (hts (.fieldLink RX3 27 "RenameRows" "ring" "LRenameRows$Ring;") (by decide +kernel)) (fun _ h9 => h9) rfl dX3_row_94 ?_
    refine lv_iload_n hx hb dX3_row_97 rfl (lv_at hl 1 rfl) ?_
    refine W.callR (W.runV (As := [.int (nI j)]) (rest := []) ⟨hx, hb, hml, hown, hts⟩ (c_X2_readBAt l dC dI cs a n f (nI j) hB) (cwV 1 hts gX3_row_X2_readBAt rfl rfl rfl (by decide +kernel) ⟨Nat.le_of_ble_eq_true rfl, Nat.le_of_ble_eq_true rfl⟩) (rd_preV (q := (RX2, TX2, 10)) hP hK 2 rfl rfl) rfl rfl hl.1 rfl (lv_room (Nat.le_of_ble_eq_true rfl)) dX3_row_98 ⟨Nat.zero_le _, Nat.zero_le _⟩) ?_
    refine W.eq (g2 := F0 m 101 ls (.int (x_at 11 n f (nI j)) :: [])) rfl ?_
    refine tp_eq (x_at_nI (by omega) (by omega)) ?_
    refine W.eq (g2 := F0 m 101 ls (.int (f 11 j) :: [])) rfl ?_
    refine tp_eq (show _ = (f (10 + 1) j) by rfl) ?_
    exact rd_iret hx hb hr hlocks dX3_row_101
  · refine lv_tableIn (tgt := 102) (off := 59) hx hb dX3_row_43 (by decide) (by decide) (by decide) (by decide) ?_
    refine lv_aload_n hx hb dX3_row_102 rfl (lv_at hl 0 rfl) ?_
    refine va_get (D := (dC, dI)) (ci := 4) (v := .ref (a 2)) (C := RX3) (T := TX3) (N := 9) hx hb hts hinX3 hown hK hP 0 rfl rfl 1 (by decide) (hts (.fieldLink RX3 27 "RenameRows" "ring" "LRenameRows$Ring;") (by decide +kernel)) (fun _ h9 => h9) rfl dX3_row_103 ?_
    refine lv_iload_n hx hb dX3_row_106 rfl (lv_at hl 1 rfl) ?_
    refine W.callR (W.runV (As := [.int (nI j)]) (rest := []) ⟨hx, hb, hml, hown, hts⟩ (c_X2_givenAt l dC dI cs a n f (nI j) hB) (cwV 1 hts gX3_row_X2_givenAt rfl rfl rfl (by decide +kernel) ⟨Nat.le_of_ble_eq_true rfl, Nat.le_of_ble_eq_true rfl⟩) (rd_preV (q := (RX2, TX2, 10)) hP hK 2 rfl rfl) rfl rfl hl.1 rfl (lv_room (Nat.le_of_ble_eq_true rfl)) dX3_row_107 ⟨Nat.zero_le _, Nat.zero_le _⟩) ?_
    refine W.eq (g2 := F0 m 110 ls (.int (x_at 12 n f (nI j)) :: [])) rfl ?_
    refine tp_eq (x_at_nI (by omega) (by omega)) ?_
    refine W.eq (g2 := F0 m 110 ls (.int (f 12 j) :: [])) rfl ?_
    refine tp_eq (show _ = (f (10 + 2) j) by rfl) ?_
    exact rd_iret hx hb hr hlocks dX3_row_110
  · refine lv_tableIn (tgt := 111) (off := 68) hx hb dX3_row_43 (by decide) (by decide) (by decide) (by decide) ?_
    refine lv_aload_n hx hb dX3_row_111 rfl (lv_at hl 0 rfl) ?_
    refine va_get (D := (dC, dI)) (ci := 4) (v := .ref (a 2)) (C := RX3) (T := TX3) (N := 9) hx hb hts hinX3 hown hK hP 0 rfl rfl 1 (by decide) (hts (.fieldLink RX3 27 "RenameRows" "ring" "LRenameRows$Ring;") (by decide +kernel)) (fun _ h9 => h9) rfl dX3_row_112 ?_
    refine lv_iload_n hx hb dX3_row_115 rfl (lv_at hl 1 rfl) ?_
    refine W.callR (W.runV (As := [.int (nI j)]) (rest := []) ⟨hx, hb, hml, hown, hts⟩ (c_X2_knownAt l dC dI cs a n f (nI j) hB) (cwV 1 hts gX3_row_X2_knownAt rfl rfl rfl (by decide +kernel) ⟨Nat.le_of_ble_eq_true rfl, Nat.le_of_ble_eq_true rfl⟩) (rd_preV (q := (RX2, TX2, 10)) hP hK 2 rfl rfl) rfl rfl hl.1 rfl (lv_room (Nat.le_of_ble_eq_true rfl)) dX3_row_116 ⟨Nat.zero_le _, Nat.zero_le _⟩) ?_
    refine W.eq (g2 := F0 m 119 ls (.int (x_at 13 n f (nI j)) :: [])) rfl ?_
    refine tp_eq (x_at_nI (by omega) (by omega)) ?_
    refine W.eq (g2 := F0 m 119 ls (.int (f 13 j) :: [])) rfl ?_
    refine tp_eq (show _ = (f (10 + 3) j) by rfl) ?_
    exact rd_iret hx hb hr hlocks dX3_row_119
  · refine lv_tableIn (tgt := 120) (off := 77) hx hb dX3_row_43 (by decide) (by decide) (by decide) (by decide) ?_
    refine lv_aload_n hx hb dX3_row_120 rfl (lv_at hl 0 rfl) ?_
    refine va_get (D := (dC, dI)) (ci := 4) (v := .ref (a 2)) (C := RX3) (T := TX3) (N := 9) hx hb hts hinX3 hown hK hP 0 rfl rfl 1 (by decide) (hts (.fieldLink RX3 27 "RenameRows" "ring" "LRenameRows$Ring;") (by decide +kernel)) (fun _ h9 => h9) rfl dX3_row_121 ?_
    refine lv_iload_n hx hb dX3_row_124 rfl (lv_at hl 1 rfl) ?_
    refine W.callR (W.runV (As := [.int (nI j)]) (rest := []) ⟨hx, hb, hml, hown, hts⟩ (c_X2_registerAt l dC dI cs a n f (nI j) hB) (cwV 1 hts gX3_row_X2_registerAt rfl rfl rfl (by decide +kernel) ⟨Nat.le_of_ble_eq_true rfl, Nat.le_of_ble_eq_true rfl⟩) (rd_preV (q := (RX2, TX2, 10)) hP hK 2 rfl rfl) rfl rfl hl.1 rfl (lv_room (Nat.le_of_ble_eq_true rfl)) dX3_row_125 ⟨Nat.zero_le _, Nat.zero_le _⟩) ?_
    refine W.eq (g2 := F0 m 128 ls (.int (x_at 14 n f (nI j)) :: [])) rfl ?_
    refine tp_eq (x_at_nI (by omega) (by omega)) ?_
    refine W.eq (g2 := F0 m 128 ls (.int (f 14 j) :: [])) rfl ?_
    refine tp_eq (show _ = (f (10 + 4) j) by rfl) ?_
    exact rd_iret hx hb hr hlocks dX3_row_128
  · refine lv_tableIn (tgt := 129) (off := 86) hx hb dX3_row_43 (by decide) (by decide) (by decide) (by decide) ?_
    refine lv_aload_n hx hb dX3_row_129 rfl (lv_at hl 0 rfl) ?_
    refine va_get (D := (dC, dI)) (ci := 4) (v := .ref (a 2)) (C := RX3) (T := TX3) (N := 9) hx hb hts hinX3 hown hK hP 0 rfl rfl 1 (by decide) (hts (.fieldLink RX3 27 "RenameRows" "ring" "LRenameRows$Ring;") (by decide +kernel)) (fun _ h9 => h9) rfl dX3_row_130 ?_
    refine lv_iload_n hx hb dX3_row_133 rfl (lv_at hl 1 rfl) ?_
    refine W.callR (W.runV (As := [.int (nI j)]) (rest := []) ⟨hx, hb, hml, hown, hts⟩ (c_X2_portAt l dC dI cs a n f (nI j) hB) (cwV 1 hts gX3_row_X2_portAt rfl rfl rfl (by decide +kernel) ⟨Nat.le_of_ble_eq_true rfl, Nat.le_of_ble_eq_true rfl⟩) (rd_preV (q := (RX2, TX2, 10)) hP hK 2 rfl rfl) rfl rfl hl.1 rfl (lv_room (Nat.le_of_ble_eq_true rfl)) dX3_row_134 ⟨Nat.zero_le _, Nat.zero_le _⟩) ?_
    refine W.eq (g2 := F0 m 137 ls (.int (x_at 15 n f (nI j)) :: [])) rfl ?_
    refine tp_eq (x_at_nI (by omega) (by omega)) ?_
    refine W.eq (g2 := F0 m 137 ls (.int (f 15 j) :: [])) rfl ?_
    refine tp_eq (show _ = (f (10 + 5) j) by rfl) ?_
    exact rd_iret hx hb hr hlocks dX3_row_137
  · refine lv_tableIn (tgt := 138) (off := 95) hx hb dX3_row_43 (by decide) (by decide) (by decide) (by decide) ?_
    refine lv_aload_n hx hb dX3_row_138 rfl (lv_at hl 0 rfl) ?_
    refine va_get (D := (dC, dI)) (ci := 4) (v := .ref (a 2)) (C := RX3) (T := TX3) (N := 9) hx hb hts hinX3 hown hK hP 0 rfl rfl 1 (by decide) (hts (.fieldLink RX3 27 "RenameRows" "ring" "LRenameRows$Ring;") (by decide +kernel)) (fun _ h9 => h9) rfl dX3_row_139 ?_
    refine lv_iload_n hx hb dX3_row_142 rfl (lv_at hl 1 rfl) ?_
    refine W.callR (W.runV (As := [.int (nI j)]) (rest := []) ⟨hx, hb, hml, hown, hts⟩ (c_X2_stateAt l dC dI cs a n f (nI j) hB) (cwV 1 hts gX3_row_X2_stateAt rfl rfl rfl (by decide +kernel) ⟨Nat.le_of_ble_eq_true rfl, Nat.le_of_ble_eq_true rfl⟩) (rd_preV (q := (RX2, TX2, 10)) hP hK 2 rfl rfl) rfl rfl hl.1 rfl (lv_room (Nat.le_of_ble_eq_true rfl)) dX3_row_143 ⟨Nat.zero_le _, Nat.zero_le _⟩) ?_
    refine W.eq (g2 := F0 m 146 ls (.int (x_at 16 n f (nI j)) :: [])) rfl ?_
    refine tp_eq (x_at_nI (by omega) (by omega)) ?_
    refine W.eq (g2 := F0 m 146 ls (.int (f 16 j) :: [])) rfl ?_
    refine tp_eq (show _ = (f (10 + 6) j) by rfl) ?_
    exact rd_iret hx hb hr hlocks dX3_row_146
end
