/-! my own: what a throw of the class needs, and the contract of a call that throws -/
def mvW (w : Cond) : Bool := goodWord w || (match w with | .castable .. => true | .declares .. => true | _ => false)
theorem mvW_moved {s U : State} (hW : s.WarmedH U.vm) {a a' : Array Value} {w : Cond} (hm : mvW w = true) (hh : w.before a s = true) : w.before a' U = true := by
  by_cases hg : goodWord w = true
  · exact word_at hW (good_of_word hg) hh
  · cases w <;> first
      | exact va_Nw.use rfl (va_Nw.warmD hW (va_Nw.of rfl hh))
      | exact va_Nw.use rfl (va_Nw.warmC hW (va_Nw.of rfl hh))
      | (simp [mvW, hg] at hm; done)
      | (exfalso; revert hm; simp [mvW, hg]; done)
abbrev eA : String := "java/lang/ArrayIndexOutOfBoundsException"
abbrev eS : String := "java/lang/IllegalStateException"
abbrev eG : String := "java/lang/IllegalArgumentException"
abbrev nmA : List String := ["java/lang/IndexOutOfBoundsException", "java/lang/RuntimeException", "java/lang/Exception"]
abbrev nmS : List String := ["java/lang/RuntimeException", "java/lang/Exception"]
def thW (ik ic : Nat) (X : String) (names : List String) : List Cond := Cond.classLink RX3 ik X :: Cond.initialized X :: vx_atS RX3 ic X names
theorem thA_m : ∀ w ∈ thW 52 56 eA nmA, mvW w = true ∧ vx_ot w = true := by decide +kernel
theorem thS_m : ∀ w ∈ thW 100 104 eS nmS, mvW w = true ∧ vx_ot w = true := by decide +kernel
theorem thG_m : ∀ w ∈ thW 105 109 eG nmS, mvW w = true ∧ vx_ot w = true := by decide +kernel
theorem thA_f : Bundle.fit eA = true ∧ ∀ n ∈ nmA, Bundle.fit n = true := by decide +kernel
theorem thS_f : Bundle.fit eS = true ∧ ∀ n ∈ nmS, Bundle.fit n = true := by decide +kernel
theorem thG_f : Bundle.fit eG = true ∧ ∀ n ∈ nmS, Bundle.fit n = true := by decide +kernel
def thT : List (Nat × String) := [(54, "no such register"), (94, "no such place"), (102, "no waiting row there"), (107, "no such port"), (116, "ports are not 1 .. 8"), (124, "no going row there"), (135, "n is below 0"), (160, "no such mark"), (165, "the mark is free"), (188, "no such name"), (193, "no such name in the queue"), (201, "no row is there"), (218, "no such what")]
/-- what the throws of the class rest on, in a state -/
def thB (U : State) : Prop := (∀ w ∈ thW 52 56 eA nmA, w.before #[] U = true) ∧ (∀ w ∈ thW 100 104 eS nmS, w.before #[] U = true) ∧ (∀ w ∈ thW 105 109 eG nmS, w.before #[] U = true) ∧ (∀ q ∈ thT, ∃ sa, vk_R RX3 q.1 q.2 sa U) ∧
  vx_Zq Bundle.tN "UNASSIGNED_STACK" Bundle.steD (fun _ => False) U U.heap ∧ vx_Zq Bundle.tN "SUPPRESSED_SENTINEL" Bundle.listD (fun _ => False) U U.heap
theorem thB_moved {s U : State} (hW : s.WarmedH U.vm) (hh : ∀ a : Nat, a < s.heap.size → U.heap[a]? = s.heap[a]?) (h : thB s) : thB U := by
  obtain ⟨h1, h2, h3, h4, h5, h6⟩ := h
  refine ⟨fun w hw => mvW_moved hW (thA_m w hw).1 (h1 w hw), fun w hw => mvW_moved hW (thS_m w hw).1 (h2 w hw), fun w hw => mvW_moved hW (thG_m w hw).1 (h3 w hw), fun q hq => ?_, ?_, ?_⟩
  · obtain ⟨sa, hsa⟩ := h4 q hq
    exact ⟨sa, hsa.warm hW⟩
  · exact vx_Zq.kept (vx_Zq.moved hW.alike h5) (fun a ha _ => hh a ha)
  · exact vx_Zq.kept (vx_Zq.moved hW.alike h6) (fun a ha _ => hh a ha)
section TH
variable {p : Program} {l : Launch} {e : Env} {R : Room} {s : State} {m : MethodId} {args : Array Value} {below : List Frame} {meth : Method} {c : Code} {H : Heap} {locs : List Loc} {cells slots : Nat} {Q : State → Prop} {pc : Nat} {ls : Array Slot} {rest st0 : List Value}
variable {cc : ByteArray} {D : va_G} {cl : List vw_C} {A A0 : Nat → Prop} {tys : List (ClassId × FieldType)} {ws ws' : va_W} {H0 : Heap}
def thPc (D : va_G) (cl : List vw_C) (ws : va_W) (tys : List (ClassId × FieldType)) (av : List Value) : Array Value → State → Prop := va_Pc av (fun U => va_P D cl ws U.heap ∧ va_K D cl tys U ∧ thB U)
def thX (E0 : String) : String → State → State → Prop := fun E st t => E = E0 ∧ st.heap.size ≤ t.heap.size ∧ ∀ q : Nat, q < st.heap.size → t.heap[q]? = st.heap[q]?
def noQ : Array Value → State → Outcome → State → Prop := fun _ _ _ _ => False
theorem th_blind {av : List Value} : FrameBlind (thPc D cl ws tys av) := fun a U g mk q => by
  obtain ⟨q0, qP, qK, qT⟩ := q
  exact ⟨q0, qP, va_K.moved (u := U) (U := U.calling g mk a) (Vm.Alike.refl U.vm) qK, thB_moved (s := U) (U := U.calling g mk a) (State.WarmedH.refl U) (fun _ _ => rfl) qT⟩
theorem th_preV {b ci : Nat} {q : vw_C} {fs As : List Value} (hP : va_P D cl ws H) (hK : va_K D cl tys s) (hT : ∀ U : State, U.heap = H → s.WarmedH U.vm → thB U) (q0 : Nat) (hc : cl[ci]? = some q) (he : ws[q0]? = some (b, .inr (ci, fs))) : PreV s H q.1 b (thPc D cl ws tys (.ref b :: As)) As :=
  ⟨th_blind, va_recv hK hP hc he, fun U hU hW => ⟨rfl, by rw [hU]; exact hP, va_K.moved hW.alike hK, hT U hU hW⟩⟩
theorem th_of {y : MethodName} {wc wc' : List Cond} {rm : Room} {av : List Value} {E0 : String} {maxL : Nat} {ret : Option FieldType} {own : String} (hy : plainName y.cls = true) (ho : y.cls = own) (hw : wc = Cond.code y cc maxL ret :: wc') (hfit : (lg_sl av).length ≤ maxL)
    (body : ∀ (p : Program) (e : Env) (s : State) (m : MethodId) (below : List Frame) (meth : Method) (c : Code), p.tables.exec = Jvm.exec → c.code = cc → meth.sig.returnType = ret → c.maxLocals = maxL → (∀ w ∈ wc, w.before av.toArray s = true) → s.vm.findClass own = some m.cls → meth.locks = false → va_P D cl ws s.heap → va_K D cl tys s → thB s → (∀ x ∈ c.exceptionTable.toList, False) →
      ∀ ls : Array Slot, lv_has ls maxL (lv_args 0 av) → W p l e rm s m av.toArray below meth c s.heap [] 0 0 (vx_MQ below noQ (thX E0) av.toArray s 1 6 (fun _ => False)) (F0 m 0 ls [])) : vx_Met l y wc rm (thPc D cl ws tys av) noQ (thX E0) 1 6 (fun _ => False) := by
  refine vx_ofW (cc := cc) (maxL := maxL) (ret := ret) hy hw ?_
  intro p e s m args below meth c s₁ B hml hno hv
  obtain ⟨rfl, hP, hK, hT⟩ := hv
  have hl := lv_entry av (n := maxL) hfit
  rw [lg_entry_eq]
  generalize (lg_sl av ++ List.replicate (maxL - (lg_sl av).length) Slot.unset).toArray = ls at hl ⊢
  exact body p e s m below meth c B.exec B.bytes B.returns hml (atoms_spec (ws := wc) B.pre) (ho ▸ findClass_of_methodNamed B.named) B.notSynchronized hP hK hT hno ls hl
theorem th_go {ik is ic : Nat} {X text : String} {names : List String} (hlt : l.stackTraces = false) (hexec : p.tables.exec = Jvm.exec) (hb : c.code = cc) (hown : s.vm.findClass RX3 = some m.cls) (hlocks : meth.locks = false) (hsize : ls.size = c.maxLocals) (hno : ∀ x ∈ c.exceptionTable.toList, False)
    (hW : ∀ w ∈ thW ik ic X names, w.before #[] s = true) (hM : ∀ w ∈ thW ik ic X names, mvW w = true ∧ vx_ot w = true) (hF : Bundle.fit X = true ∧ ∀ n ∈ names, Bundle.fit n = true) (hR : ∃ sa, vk_R RX3 is text sa s)
    (hU : vx_Zq Bundle.tN "UNASSIGNED_STACK" Bundle.steD (fun _ => False) s s.heap) (hN : vx_Zq Bundle.tN "SUPPRESSED_SENTINEL" Bundle.listD (fun _ => False) s s.heap)
    (d0 : decode cc pc = .ok (.new ik, 3)) (d3 : decode cc (pc + 3) = .ok (.dup, 1)) (d4 : decode cc (pc + 4) = .ok (.ldc is, 2)) (d6 : decode cc (pc + 6) = .ok (.invokespecial ic, 3)) (d9 : decode cc (pc + 9) = .ok (.athrow, 1))
    (hRf : names.length + 3 < R.frames) (hRl : (rest.map fun v => v.category).sum + (13 * (names.length + 1) + 43) ≤ R.locals) (hRc : 1 ≤ R.cells) (hRs : 6 ≤ R.slots) :
    W p l e R s m args below meth c s.heap [] 0 0 (vx_MQ below noQ (thX X) args s 1 6 (fun _ => False)) (F0 m pc ls rest) := by
  obtain ⟨sa, hsa⟩ := hR
  have hmv : ∀ w ∈ thW ik ic X names, w.before args s = true := fun w hw => mvW_moved (State.WarmedH.refl s) (hM w hw).1 (hW w hw)
  exact vx_throwS (A := fun _ => False) hexec hb hlt hown hF.1 hF.2 (hmv _ List.mem_cons_self) (hmv _ (List.mem_cons_of_mem _ List.mem_cons_self)) hsa (fun w hw => hmv w (List.mem_cons_of_mem _ (List.mem_cons_of_mem _ hw))) (fun w hw => (hM w hw).2) hU hN va_S.rf hsize d0 d3 d4 d6 d9 (fun x hx => (hno x hx).elim) hRf hRl (by omega) (by omega) hlocks (fun t _ h1 h2 => ⟨rfl, h1, h2⟩) (fun _ h => nomatch h) (by omega) (by omega)
end TH
