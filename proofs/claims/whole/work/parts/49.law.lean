/-! my own rows: the law's body -/
section LR
variable {p : Program} {l : Launch} {e : Env} {R : Room} {s : State} {m : MethodId} {args : Array Value} {below : List Frame} {meth : Method} {c : Code} {H : Heap} {locs : List Loc} {cells slots : Nat} {Q : State → Prop} {pc : Nat} {ls : Array Slot} {rest st0 : List Value}
variable {cc : ByteArray} {D : va_G} {cl : List vw_C} {A A0 : Nat → Prop} {tys : List (ClassId × FieldType)} {ws ws' : va_W} {H0 : Heap} {av : Array Value}
theorem la_sld (hexec : p.tables.exec = Jvm.exec) (hb : c.code = cc) {b L : Nat} {xs : Nat → Int32} (hX : va_X b L xs s H0) (hbl : b < H0.size) (hbA : ¬ A b) (hS : va_S A H0 H locs) {j : Nat} (hj : j < L) (hL : L ≤ 2051) (hdg : decode cc pc = .ok (.iaload, 1))
    (kk : W p l e R s m args below meth c H locs cells slots Q (F0 m (pc + 1) ls (.int (xs j) :: rest))) : W p l e R s m args below meth c H locs cells slots Q (F0 m pc ls (.int (nI j) :: .ref b :: rest)) :=
  va_sld hexec hb hX hbl hbA hS (vp_in_nI hj (by omega)) hdg (by rw [nI_clamp (by omega)]; exact kk)
theorem la_lald (hexec : p.tables.exec = Jvm.exec) (hb : c.code = cc) (hK : va_K D cl tys s) (hP : va_P D cl ws H) (q0 t0 : Nat) {a : Nat} {cA : ClassId} {f : Nat → Int64} (ha : ws[q0]? = some (a, .inl (cA, 1, .inr (.inl f)))) (ht : tys[t0]? = some (cA, .long)) (hdg : decode cc pc = .ok (.laload, 1))
    (kk : W p l e R s m args below meth c H locs cells slots Q (F0 m (pc + 1) ls (.long (f 0) :: rest))) : W p l e R s m args below meth c H locs cells slots Q (F0 m pc ls (.int (nI 0) :: .ref a :: rest)) :=
  va_lald hexec hb hK hP q0 t0 ha ht (vp_in_nI (by decide) (by decide)) hdg (by rw [nI_clamp (by decide)]; exact kk)
abbrev newA (s : State) : Nat → Prop := fun q => s.heap.size ≤ q
theorem new_kept (hS : va_S (newA s) s.heap H locs) {U : State} (hU : U.heap = H) : ∀ a : Nat, a < s.heap.size → U.heap[a]? = s.heap[a]? := fun a ha => by rw [hU]; exact hS.2.1 a ha (fun q => absurd q (Nat.not_le.mpr ha))
theorem hp_preS {As : List Value} (hP : va_P D cl ws H) (hK : va_K D cl tys s) (hD : va_D A ws) (hT : thB s) (hN : thN s) (hS : va_S (newA s) s.heap H locs) : PreS s H (hpPc D cl ws tys H.size As) As :=
  ⟨hp_blind, fun U hU hW => ⟨rfl, by rw [hU], by rw [hU]; exact hP, va_K.moved hW.alike hK, hD.weaken (fun _ _ _ _ => trivial), thB_moved hW (new_kept hS hU) hT, thN_moved hW hN⟩⟩
theorem wr_callg {mc ms : Nat} {ov : Option Value} (hr : va_Run p l e R s m args below meth c H locs cells slots mc ms (F0 m pc ls st0) rest (wrQ D cl ws' ov (va_A ws H.size) av) (va_A ws H.size)) (hS : va_S A0 H0 H locs) (hD : va_D A0 ws) (hA : ∀ q, H0.size ≤ q → A0 q) (hsm : ws'.map Prod.fst = ws.map Prod.fst)
    (kk : ∀ (H1 : Heap) (locs1 : List Loc), va_P D cl ws' H1 → va_D A0 ws' → va_S A0 H0 H1 locs1 → W p l e R s m args below meth c H1 locs1 (cells + mc) (slots + ms) Q (F0 m (pc + 3) ls (ov.toList ++ rest))) : W p l e R s m args below meth c H locs cells slots Q (F0 m pc ls st0) := by
  have hF := wr_free hD hS hA
  intro T hT X
  obtain ⟨v, st₀, t, T', L, h0, X', hL, e1, e2, ⟨hv, hp, hz, hk⟩, st⟩ := hr T hT X
  cases hv
  rw [h0] at hz hk
  obtain ⟨t2, a1, b1⟩ := kk T'.heap (locs ++ L) (by rw [e1]; exact hp) (hD.same hsm)
    ⟨Nat.le_trans hS.1 (by rw [e1]; exact hz), fun q h1 h2 => by rw [e1, hk q (Nat.lt_of_lt_of_le h1 hS.1) (fun z => h2 (hF q z))]; exact hS.2.1 q h1 h2, fun q hq => by
      rcases List.mem_append.mp hq with h | h
      · exact hS.2.2 q h
      · exact hF _ (hL q h)⟩ T' rfl X'
  exact ⟨t2, st t2 a1, b1⟩
end LR
abbrev lwWd (cs : ClassId × ClassId) (c3 : ClassId) (a b : Nat → Nat) (o : Nat) (z : Nat → Int64) (n : Nat → Nat) (f : Nat → Nat → Int32) (g : Nat → Nat) (h : Nat → Nat → Int32) : va_W := wX cs a n f ++ ((o, .inl (c3, 1, .inr (.inl z))) :: wM cs b g h)
theorem lw_split {cs : ClassId × ClassId} {c3 : ClassId} {a b : Nat → Nat} {o : Nat} {z : Nat → Int64} {n : Nat → Nat} {f : Nat → Nat → Int32} {g : Nat → Nat} {h : Nat → Nat → Int32} : lwWd cs c3 a b o z n f g h = (wX cs a n f ++ [(o, .inl (c3, 1, .inr (.inl z)))]) ++ (wM cs b g h ++ []) := by
  rw [List.append_nil, List.append_assoc]; rfl
/-- what holds through the law's whole body -/
def lwX (l : Launch) (p : Program) (s : State) (m : MethodId) (meth : Method) (c : Code) (D : va_G) (cs : ClassId × ClassId) (c3 : ClassId) (b L : Nat) (xs : Nat → Int32) : Prop :=
  l.stackTraces = false ∧ p.tables.exec = Jvm.exec ∧ c.code = cL_law ∧ c.maxLocals = 7 ∧ s.vm.findClass RL = some m.cls ∧ (∀ w ∈ wsL_law, w.before #[Value.ref b] s = true) ∧ va_X b L xs s s.heap ∧ b < s.heap.size ∧ va_K D vwCl (tyl3 cs c3) s ∧ thB s ∧ thN s ∧ L ≤ 2051
/-- and behind each call -/
def lwS (s : State) (D : va_G) (cs : ClassId × ClassId) (c3 : ClassId) (a b : Nat → Nat) (o : Nat) (k : Nat) (H : Heap) (locs : List Loc) : Prop :=
  ∃ (n : Nat → Nat) (f : Nat → Nat → Int32) (g : Nat → Nat) (h : Nat → Nat → Int32) (z : Nat → Int64), Rel k n f g h ∧ va_P D vwCl (lwWd cs c3 a b o z n f g h) H ∧ va_D (newA s) (lwWd cs c3 a b o z n f g h) ∧ va_S (newA s) s.heap H locs
/-! the law's cases -/
set_option maxHeartbeats 4000000 in
set_option maxRecDepth 100000 in
theorem cs_dispatch {p : Program} {l : Launch} {e : Env} {s : State} {m : MethodId} {below : List Frame} {meth : Method} {c : Code} {H : Heap} {locs : List Loc} {Q : State → Prop} {ls : Array Slot} {dC : Nat → ClassId} {dI : Nat → Nat → Nat} {cs : ClassId × ClassId} {c3 : ClassId} {a bb : Nat → Nat} {o b L : Nat} {xs : Nat → Int32} (C0 : lwX l p s m meth c (dC, dI) cs c3 b L xs) {k0 : Nat} (hi : 3 + 4 * k0 + 4 ≤ L) (S0 : lwS s (dC, dI) cs c3 a bb o k0 H locs) (hl : lv_has ls 7 [(0, .ref b), (1, .ref (a 0)), (2, .ref (bb 0)), (3, .ref o), (4, .int (nI (3 + 4 * k0)))]) (kk : ∀ (H : Heap) (locs : List Loc) (ls : Array Slot), lwS s (dC, dI) cs c3 a bb o (k0 + 1) H locs → lv_has ls 7 [(0, .ref b), (1, .ref (a 0)), (2, .ref (bb 0)), (3, .ref o), (4, .int (nI (3 + 4 * k0)))] → W p l e room_1 s m #[Value.ref b] below meth c H locs (50 + k0 + 1) (2000 + 6 * k0 + 6) Q (F0 m 1030 ls [])) : W p l e room_1 s m #[Value.ref b] below meth c H locs (50 + k0) (2000 + 6 * k0) Q (F0 m 148 ls []) := by
  obtain ⟨hlt, hx, hb, hml, hown, hts, hX, hbl, hK, hT, hN, hL⟩ := C0
  obtain ⟨n, f, g, h, z, r, hP, hD, hS⟩ := S0
  have hA : ∀ q, s.heap.size ≤ q → newA s q := fun _ q => q
  have hbA : ¬ newA s b := fun q => absurd hbl (Nat.not_lt.mpr q)
  have hKc : va_K (dC, dI) vwCl (tyl cs) s := hK.sub [0, 1] rfl
  refine lv_aload_n hx hb dL_law_148 rfl (lv_at hl 1 rfl) ?_
  refine lv_aload_n hx hb dL_law_149 rfl (lv_at hl 0 rfl) ?_
  refine lv_iload hx hb dL_law_150 (lv_at hl 4 rfl) ?_
  refine lv_iconst (v := nI 1) hx hb dL_law_152 (by decide) ?_
  refine lv_iadd hx hb dL_law_153 ?_
  refine tp_eq (nI_add (3 + 4 * k0) 1) ?_
  refine la_sld hx hb hX hbl hbA hS (j := 3 + 4 * k0 + 1) (by omega) hL dL_law_154 ?_
  refine lv_aload_n hx hb dL_law_155 rfl (lv_at hl 0 rfl) ?_
  refine lv_iload hx hb dL_law_156 (lv_at hl 4 rfl) ?_
  refine lv_iconst (v := nI 2) hx hb dL_law_158 (by decide) ?_
  refine lv_iadd hx hb dL_law_159 ?_
  refine tp_eq (nI_add (3 + 4 * k0) 2) ?_
  refine la_sld hx hb hX hbl hbA hS (j := 3 + 4 * k0 + 2) (by omega) hL dL_law_160 ?_
  refine lv_aload_n hx hb dL_law_161 rfl (lv_at hl 0 rfl) ?_
  refine lv_iload hx hb dL_law_162 (lv_at hl 4 rfl) ?_
  refine lv_iconst (v := nI 3) hx hb dL_law_164 (by decide) ?_
  refine lv_iadd hx hb dL_law_165 ?_
  refine tp_eq (nI_add (3 + 4 * k0) 3) ?_
  refine la_sld hx hb hX hbl hbA hS (j := 3 + 4 * k0 + 3) (by omega) hL dL_law_166 ?_
  refine lv_aload_n hx hb dL_law_167 rfl (lv_at hl 3 rfl) ?_
  obtain ⟨n', f', g', h', z', k, r9, hMx, ⟨rm, hrc, hrs, hrf, hrl, hMm⟩, hk0, hk4, hz, hR⟩ := op_dispatch l hlt dC dI cs c3 a bb o r (by omega) (xs (3 + 4 * k0 + 1)) (xs (3 + 4 * k0 + 2)) (xs (3 + 4 * k0 + 3)) z
  refine wr_callg (ws := lwWd cs c3 a bb o z n f g h) (ws' := lwWd cs c3 a bb o z' n' f' g h) (ov := some (.int (nI k))) (rest := []) (vx_runSW (As := [.ref (a 0), .int (xs (3 + 4 * k0 + 1)), .int (xs (3 + 4 * k0 + 2)), .int (xs (3 + 4 * k0 + 3)), .ref o]) (rest := []) ⟨hx, hb, hml, hown, hts⟩ (hMx H.size) (vx_cwSW 5 hts gL_law_L_dispatch rfl rfl rfl (by decide +kernel) ⟨Nat.le_of_ble_eq_true rfl, Nat.le_of_ble_eq_true rfl⟩) (hp_preS hP hK hD hT hN hS) rfl rfl hl.1 rfl (lv_room (Nat.le_of_ble_eq_true rfl)) dL_law_168 ⟨by show 50 + k0 + 1 ≤ 601024; omega, by show 2000 + 6 * k0 + 6 ≤ 7293000; omega⟩) hS hD hA rfl (fun H locs hP hD hS => ?_)
  refine W.eq (g2 := F0 m 171 ls (.int (nI k) :: [])) rfl ?_
  refine lv_istore (lv' := [(5, .int (nI k)), (0, .ref b), (1, .ref (a 0)), (2, .ref (bb 0)), (3, .ref o), (4, .int (nI (3 + 4 * k0)))]) hx hb dL_law_171 hl (by decide) rfl (fun ls hl => ?_)
  refine lv_aload_n hx hb dL_law_173 rfl (lv_at hl 3 rfl) ?_
  refine lv_aload_n hx hb dL_law_174 rfl (lv_at hl 1 rfl) ?_
  refine lv_iload hx hb dL_law_175 (lv_at hl 5 rfl) ?_
  refine lv_iconst (v := nI 1) hx hb dL_law_177 (by decide) ?_
  refine lv_iadd hx hb dL_law_178 ?_
  refine tp_eq (nI_add (3 + 4 * k0) 1) ?_
  refine la_sld hx hb hX hbl hbA hS (j := 3 + 4 * k0 + 1) (by omega) hL dL_law_179 ?_
  refine lv_aload_n hx hb dL_law_180 rfl (lv_at hl 1 rfl) ?_
  refine lv_iload hx hb dL_law_181 (lv_at hl 5 rfl) ?_
  refine lv_iconst (v := nI 2) hx hb dL_law_183 (by decide) ?_
  refine lv_iadd hx hb dL_law_184 ?_
  refine tp_eq (nI_add (3 + 4 * k0) 2) ?_
  refine la_sld hx hb hX hbl hbA hS (j := 3 + 4 * k0 + 2) (by omega) hL dL_law_185 ?_
  refine lv_aload_n hx hb dL_law_186 rfl (lv_at hl 1 rfl) ?_
  refine lv_iload hx hb dL_law_187 (lv_at hl 5 rfl) ?_
  refine lv_iconst (v := nI 3) hx hb dL_law_189 (by decide) ?_
  refine lv_iadd hx hb dL_law_190 ?_
  refine tp_eq (nI_add (3 + 4 * k0) 3) ?_
  refine la_sld hx hb hX hbl hbA hS (j := 3 + 4 * k0 + 3) (by omega) hL dL_law_191 ?_
  rw [lw_split] at hP hD
  have hPm : va_P (dC, dI) vwCl (wM cs bb g h) H := blkP (w0 := wX cs a n' f' ++ [(o, .inl (c3, 1, .inr (.inl z')))]) (wr := []) hP
  have hDm : va_D (newA s) (wM cs bb g h) := blkD (w0 := wX cs a n' f' ++ [(o, .inl (c3, 1, .inr (.inl z')))]) (wr := []) hD
  refine blk_call (w0 := wX cs a n' f' ++ [(o, .inl (c3, 1, .inr (.inl z')))]) (wc := wM cs bb g h) (wr := []) (w1 := wM cs bb g' h') (ov := some (.int r9)) (rest := []) (va_runV (As := [.int (xs (3 + 4 * k0 + 1)), .int (xs (3 + 4 * k0 + 2)), .int (xs (3 + 4 * k0 + 3))]) (rest := []) ⟨hx, hb, hml, hown, hts⟩ (hMm H.size) (cwV 3 hts gL_law_X4_dispatch rfl hrc hrs (by decide +kernel) ⟨by show rm.frames + 1 ≤ 11; omega, by show _ + rm.locals ≤ 394; omega⟩) (wr_preV (q := (RX4, TX4, 29)) hPm hKc hDm 0 rfl rfl) rfl rfl hl.1 rfl (lv_room (Nat.le_of_ble_eq_true rfl)) dL_law_192 ⟨by show 50 + k0 + 1 + 0 ≤ 601024; omega, by show 2000 + 6 * k0 + 6 + 0 ≤ 7293000; omega⟩) hS hP hD hA rfl (fun H locs hP hD hS => ?_)
  refine W.eq (g2 := F0 m 195 ls (.int r9 :: [])) rfl ?_
  refine lv_istore (lv' := [(6, .int r9), (5, .int (nI k)), (0, .ref b), (1, .ref (a 0)), (2, .ref (bb 0)), (3, .ref o), (4, .int (nI (3 + 4 * k0)))]) hx hb dL_law_195 hl (by decide) rfl (fun ls hl => ?_)
  refine lv_aload_n hx hb dL_law_197 rfl (lv_at hl 4 rfl) ?_
  have hPm : va_P (dC, dI) vwCl (wM cs bb g' h') H := blkP (w0 := wX cs a n' f' ++ [(o, .inl (c3, 1, .inr (.inl z')))]) (wr := []) hP
  refine W.callR (W.runV (As := []) (rest := []) ⟨hx, hb, hml, hown, hts⟩ (c_X4_thrown l dC dI cs bb g' h' (RA_m hR.1.1)) (cwV 0 hts gL_law_X4_thrown rfl rfl rfl (by decide +kernel) ⟨Nat.le_of_ble_eq_true rfl, Nat.le_of_ble_eq_true rfl⟩) (rd_preV (q := (RX4, TX4, 29)) hPm hKc 0 rfl rfl) rfl rfl hl.1 rfl (lv_room (Nat.le_of_ble_eq_true rfl)) dL_law_198 ⟨by show 50 + k0 + 1 + 0 ≤ 601024; omega, by show 2000 + 6 * k0 + 6 + 0 ≤ 7293000; omega⟩) ?_
  refine W.eq (g2 := F0 m 201 ls (.int (nI (g' 0)) :: [])) rfl ?_
  refine lv_iload hx hb dL_law_201 (lv_at hl 1 rfl) ?_
  refine lv_icmp_eq (tgt := 208) hx hb dL_law_203 (by decide) (fun _ => ?_) (fun q => absurd (by rw [hk0]) q)
  refine lv_iload hx hb dL_law_208 (lv_at hl 1 rfl) ?_
  refine lv_if_ne (tgt := 225) hx hb dL_law_210 (by decide) (fun _ => lv_goto (tgt := 1030) hx hb dL_law_225 (by decide) (kk H locs ls ⟨n', f', g', h', z', hR, by rw [lw_split]; exact hP, by rw [lw_split]; exact hD, hS⟩ (lv_sub hl [2, 3, 4, 5, 6] rfl))) (fun q => ?_)
  have hkz : k = 0 := (nI_z (by omega)).mp q
  refine lv_aload_n hx hb dL_law_213 rfl (lv_at hl 5 rfl) ?_
  refine lv_iconst (v := nI 0) hx hb dL_law_214 (by decide) ?_
  refine la_lald hx hb hK hP 19 2 rfl rfl dL_law_215 ?_
  refine lv_iload hx hb dL_law_216 (lv_at hl 0 rfl) ?_
  refine lv_i2l hx hb dL_law_218 rfl ?_
  refine W.lcmp hx hb dL_law_219 ?_
  exact lv_if_eq (tgt := 225) hx hb dL_law_220 (by decide) (fun _ => lv_goto (tgt := 1030) hx hb dL_law_225 (by decide) (kk H locs ls ⟨n', f', g', h', z', hR, by rw [lw_split]; exact hP, by rw [lw_split]; exact hD, hS⟩ (lv_sub hl [2, 3, 4, 5, 6] rfl))) (fun q => absurd ((lg_cmp_eq _ _).mpr (hz hkz)) q)
set_option maxHeartbeats 4000000 in
set_option maxRecDepth 100000 in
theorem cs_move {p : Program} {l : Launch} {e : Env} {s : State} {m : MethodId} {below : List Frame} {meth : Method} {c : Code} {H : Heap} {locs : List Loc} {Q : State → Prop} {ls : Array Slot} {dC : Nat → ClassId} {dI : Nat → Nat → Nat} {cs : ClassId × ClassId} {c3 : ClassId} {a bb : Nat → Nat} {o b L : Nat} {xs : Nat → Int32} (C0 : lwX l p s m meth c (dC, dI) cs c3 b L xs) {k0 : Nat} (hi : 3 + 4 * k0 + 4 ≤ L) (S0 : lwS s (dC, dI) cs c3 a bb o k0 H locs) (hl : lv_has ls 7 [(0, .ref b), (1, .ref (a 0)), (2, .ref (bb 0)), (3, .ref o), (4, .int (nI (3 + 4 * k0)))]) (kk : ∀ (H : Heap) (locs : List Loc) (ls : Array Slot), lwS s (dC, dI) cs c3 a bb o (k0 + 1) H locs → lv_has ls 7 [(0, .ref b), (1, .ref (a 0)), (2, .ref (bb 0)), (3, .ref o), (4, .int (nI (3 + 4 * k0)))] → W p l e room_1 s m #[Value.ref b] below meth c H locs (50 + k0 + 1) (2000 + 6 * k0 + 6) Q (F0 m 1030 ls [])) : W p l e room_1 s m #[Value.ref b] below meth c H locs (50 + k0) (2000 + 6 * k0) Q (F0 m 228 ls []) := by
  obtain ⟨hlt, hx, hb, hml, hown, hts, hX, hbl, hK, hT, hN, hL⟩ := C0
  obtain ⟨n, f, g, h, z, r, hP, hD, hS⟩ := S0
  have hA : ∀ q, s.heap.size ≤ q → newA s q := fun _ q => q
  have hbA : ¬ newA s b := fun q => absurd hbl (Nat.not_lt.mpr q)
  have hKc : va_K (dC, dI) vwCl (tyl cs) s := hK.sub [0, 1] rfl
  refine lv_aload_n hx hb dL_law_228 rfl (lv_at hl 1 rfl) ?_
  refine lv_aload_n hx hb dL_law_229 rfl (lv_at hl 0 rfl) ?_
  refine lv_iload hx hb dL_law_230 (lv_at hl 4 rfl) ?_
  refine lv_iconst (v := nI 1) hx hb dL_law_232 (by decide) ?_
  refine lv_iadd hx hb dL_law_233 ?_
  refine tp_eq (nI_add (3 + 4 * k0) 1) ?_
  refine la_sld hx hb hX hbl hbA hS (j := 3 + 4 * k0 + 1) (by omega) hL dL_law_234 ?_
  refine lv_aload_n hx hb dL_law_235 rfl (lv_at hl 0 rfl) ?_
  refine lv_iload hx hb dL_law_236 (lv_at hl 4 rfl) ?_
  refine lv_iconst (v := nI 2) hx hb dL_law_238 (by decide) ?_
  refine lv_iadd hx hb dL_law_239 ?_
  refine tp_eq (nI_add (3 + 4 * k0) 2) ?_
  refine la_sld hx hb hX hbl hbA hS (j := 3 + 4 * k0 + 2) (by omega) hL dL_law_240 ?_
  refine lv_aload_n hx hb dL_law_241 rfl (lv_at hl 3 rfl) ?_
  obtain ⟨n', f', g', h', z', k, r9, hMx, ⟨rm, hrc, hrs, hrf, hrl, hMm⟩, hk0, hk4, hz, hR⟩ := op_move l hlt dC dI cs c3 a bb o r (by omega) (xs (3 + 4 * k0 + 1)) (xs (3 + 4 * k0 + 2)) z
  refine wr_callg (ws := lwWd cs c3 a bb o z n f g h) (ws' := lwWd cs c3 a bb o z' n' f' g h) (ov := some (.int (nI k))) (rest := []) (vx_runSW (As := [.ref (a 0), .int (xs (3 + 4 * k0 + 1)), .int (xs (3 + 4 * k0 + 2)), .ref o]) (rest := []) ⟨hx, hb, hml, hown, hts⟩ (hMx H.size) (vx_cwSW 4 hts gL_law_L_move rfl rfl rfl (by decide +kernel) ⟨Nat.le_of_ble_eq_true rfl, Nat.le_of_ble_eq_true rfl⟩) (hp_preS hP hK hD hT hN hS) rfl rfl hl.1 rfl (lv_room (Nat.le_of_ble_eq_true rfl)) dL_law_242 ⟨by show 50 + k0 + 1 ≤ 601024; omega, by show 2000 + 6 * k0 + 6 ≤ 7293000; omega⟩) hS hD hA rfl (fun H locs hP hD hS => ?_)
  refine W.eq (g2 := F0 m 245 ls (.int (nI k) :: [])) rfl ?_
  refine lv_istore (lv' := [(5, .int (nI k)), (0, .ref b), (1, .ref (a 0)), (2, .ref (bb 0)), (3, .ref o), (4, .int (nI (3 + 4 * k0)))]) hx hb dL_law_245 hl (by decide) rfl (fun ls hl => ?_)
  refine lv_aload_n hx hb dL_law_247 rfl (lv_at hl 3 rfl) ?_
  refine lv_aload_n hx hb dL_law_248 rfl (lv_at hl 1 rfl) ?_
  refine lv_iload hx hb dL_law_249 (lv_at hl 5 rfl) ?_
  refine lv_iconst (v := nI 1) hx hb dL_law_251 (by decide) ?_
  refine lv_iadd hx hb dL_law_252 ?_
  refine tp_eq (nI_add (3 + 4 * k0) 1) ?_
  refine la_sld hx hb hX hbl hbA hS (j := 3 + 4 * k0 + 1) (by omega) hL dL_law_253 ?_
  refine lv_aload_n hx hb dL_law_254 rfl (lv_at hl 1 rfl) ?_
  refine lv_iload hx hb dL_law_255 (lv_at hl 5 rfl) ?_
  refine lv_iconst (v := nI 2) hx hb dL_law_257 (by decide) ?_
  refine lv_iadd hx hb dL_law_258 ?_
  refine tp_eq (nI_add (3 + 4 * k0) 2) ?_
  refine la_sld hx hb hX hbl hbA hS (j := 3 + 4 * k0 + 2) (by omega) hL dL_law_259 ?_
  rw [lw_split] at hP hD
  have hPm : va_P (dC, dI) vwCl (wM cs bb g h) H := blkP (w0 := wX cs a n' f' ++ [(o, .inl (c3, 1, .inr (.inl z')))]) (wr := []) hP
  have hDm : va_D (newA s) (wM cs bb g h) := blkD (w0 := wX cs a n' f' ++ [(o, .inl (c3, 1, .inr (.inl z')))]) (wr := []) hD
  refine blk_call (w0 := wX cs a n' f' ++ [(o, .inl (c3, 1, .inr (.inl z')))]) (wc := wM cs bb g h) (wr := []) (w1 := wM cs bb g' h') (ov := some (.int r9)) (rest := []) (va_runV (As := [.int (xs (3 + 4 * k0 + 1)), .int (xs (3 + 4 * k0 + 2))]) (rest := []) ⟨hx, hb, hml, hown, hts⟩ (hMm H.size) (cwV 2 hts gL_law_X4_move rfl hrc hrs (by decide +kernel) ⟨by show rm.frames + 1 ≤ 11; omega, by show _ + rm.locals ≤ 394; omega⟩) (wr_preV (q := (RX4, TX4, 29)) hPm hKc hDm 0 rfl rfl) rfl rfl hl.1 rfl (lv_room (Nat.le_of_ble_eq_true rfl)) dL_law_260 ⟨by show 50 + k0 + 1 + 0 ≤ 601024; omega, by show 2000 + 6 * k0 + 6 + 0 ≤ 7293000; omega⟩) hS hP hD hA rfl (fun H locs hP hD hS => ?_)
  refine W.eq (g2 := F0 m 263 ls (.int r9 :: [])) rfl ?_
  refine lv_istore (lv' := [(6, .int r9), (5, .int (nI k)), (0, .ref b), (1, .ref (a 0)), (2, .ref (bb 0)), (3, .ref o), (4, .int (nI (3 + 4 * k0)))]) hx hb dL_law_263 hl (by decide) rfl (fun ls hl => ?_)
  refine lv_aload_n hx hb dL_law_265 rfl (lv_at hl 4 rfl) ?_
  have hPm : va_P (dC, dI) vwCl (wM cs bb g' h') H := blkP (w0 := wX cs a n' f' ++ [(o, .inl (c3, 1, .inr (.inl z')))]) (wr := []) hP
  refine W.callR (W.runV (As := []) (rest := []) ⟨hx, hb, hml, hown, hts⟩ (c_X4_thrown l dC dI cs bb g' h' (RA_m hR.1.1)) (cwV 0 hts gL_law_X4_thrown rfl rfl rfl (by decide +kernel) ⟨Nat.le_of_ble_eq_true rfl, Nat.le_of_ble_eq_true rfl⟩) (rd_preV (q := (RX4, TX4, 29)) hPm hKc 0 rfl rfl) rfl rfl hl.1 rfl (lv_room (Nat.le_of_ble_eq_true rfl)) dL_law_266 ⟨by show 50 + k0 + 1 + 0 ≤ 601024; omega, by show 2000 + 6 * k0 + 6 + 0 ≤ 7293000; omega⟩) ?_
  refine W.eq (g2 := F0 m 269 ls (.int (nI (g' 0)) :: [])) rfl ?_
  refine lv_iload hx hb dL_law_269 (lv_at hl 1 rfl) ?_
  refine lv_icmp_eq (tgt := 276) hx hb dL_law_271 (by decide) (fun _ => ?_) (fun q => absurd (by rw [hk0]) q)
  refine lv_iload hx hb dL_law_276 (lv_at hl 1 rfl) ?_
  refine lv_if_ne (tgt := 293) hx hb dL_law_278 (by decide) (fun _ => lv_goto (tgt := 1030) hx hb dL_law_293 (by decide) (kk H locs ls ⟨n', f', g', h', z', hR, by rw [lw_split]; exact hP, by rw [lw_split]; exact hD, hS⟩ (lv_sub hl [2, 3, 4, 5, 6] rfl))) (fun q => ?_)
  have hkz : k = 0 := (nI_z (by omega)).mp q
  refine lv_aload_n hx hb dL_law_281 rfl (lv_at hl 5 rfl) ?_
  refine lv_iconst (v := nI 0) hx hb dL_law_282 (by decide) ?_
  refine la_lald hx hb hK hP 19 2 rfl rfl dL_law_283 ?_
  refine lv_iload hx hb dL_law_284 (lv_at hl 0 rfl) ?_
  refine lv_i2l hx hb dL_law_286 rfl ?_
  refine W.lcmp hx hb dL_law_287 ?_
  exact lv_if_eq (tgt := 293) hx hb dL_law_288 (by decide) (fun _ => lv_goto (tgt := 1030) hx hb dL_law_293 (by decide) (kk H locs ls ⟨n', f', g', h', z', hR, by rw [lw_split]; exact hP, by rw [lw_split]; exact hD, hS⟩ (lv_sub hl [2, 3, 4, 5, 6] rfl))) (fun q => absurd ((lg_cmp_eq _ _).mpr (hz hkz)) q)
set_option maxHeartbeats 4000000 in
set_option maxRecDepth 100000 in
theorem cs_port {p : Program} {l : Launch} {e : Env} {s : State} {m : MethodId} {below : List Frame} {meth : Method} {c : Code} {H : Heap} {locs : List Loc} {Q : State → Prop} {ls : Array Slot} {dC : Nat → ClassId} {dI : Nat → Nat → Nat} {cs : ClassId × ClassId} {c3 : ClassId} {a bb : Nat → Nat} {o b L : Nat} {xs : Nat → Int32} (C0 : lwX l p s m meth c (dC, dI) cs c3 b L xs) {k0 : Nat} (hi : 3 + 4 * k0 + 4 ≤ L) (S0 : lwS s (dC, dI) cs c3 a bb o k0 H locs) (hl : lv_has ls 7 [(0, .ref b), (1, .ref (a 0)), (2, .ref (bb 0)), (3, .ref o), (4, .int (nI (3 + 4 * k0)))]) (kk : ∀ (H : Heap) (locs : List Loc) (ls : Array Slot), lwS s (dC, dI) cs c3 a bb o (k0 + 1) H locs → lv_has ls 7 [(0, .ref b), (1, .ref (a 0)), (2, .ref (bb 0)), (3, .ref o), (4, .int (nI (3 + 4 * k0)))] → W p l e room_1 s m #[Value.ref b] below meth c H locs (50 + k0 + 1) (2000 + 6 * k0 + 6) Q (F0 m 1030 ls [])) : W p l e room_1 s m #[Value.ref b] below meth c H locs (50 + k0) (2000 + 6 * k0) Q (F0 m 296 ls []) := by
  obtain ⟨hlt, hx, hb, hml, hown, hts, hX, hbl, hK, hT, hN, hL⟩ := C0
  obtain ⟨n, f, g, h, z, r, hP, hD, hS⟩ := S0
  have hA : ∀ q, s.heap.size ≤ q → newA s q := fun _ q => q
  have hbA : ¬ newA s b := fun q => absurd hbl (Nat.not_lt.mpr q)
  have hKc : va_K (dC, dI) vwCl (tyl cs) s := hK.sub [0, 1] rfl
  refine lv_aload_n hx hb dL_law_296 rfl (lv_at hl 1 rfl) ?_
  refine lv_aload_n hx hb dL_law_297 rfl (lv_at hl 0 rfl) ?_
  refine lv_iload hx hb dL_law_298 (lv_at hl 4 rfl) ?_
  refine lv_iconst (v := nI 1) hx hb dL_law_300 (by decide) ?_
  refine lv_iadd hx hb dL_law_301 ?_
  refine tp_eq (nI_add (3 + 4 * k0) 1) ?_
  refine la_sld hx hb hX hbl hbA hS (j := 3 + 4 * k0 + 1) (by omega) hL dL_law_302 ?_
  refine lv_aload_n hx hb dL_law_303 rfl (lv_at hl 0 rfl) ?_
  refine lv_iload hx hb dL_law_304 (lv_at hl 4 rfl) ?_
  refine lv_iconst (v := nI 2) hx hb dL_law_306 (by decide) ?_
  refine lv_iadd hx hb dL_law_307 ?_
  refine tp_eq (nI_add (3 + 4 * k0) 2) ?_
  refine la_sld hx hb hX hbl hbA hS (j := 3 + 4 * k0 + 2) (by omega) hL dL_law_308 ?_
  refine lv_aload_n hx hb dL_law_309 rfl (lv_at hl 3 rfl) ?_
  obtain ⟨n', f', g', h', z', k, r9, hMx, ⟨rm, hrc, hrs, hrf, hrl, hMm⟩, hk0, hk4, hz, hR⟩ := op_port l hlt dC dI cs c3 a bb o r (by omega) (xs (3 + 4 * k0 + 1)) (xs (3 + 4 * k0 + 2)) z
  refine wr_callg (ws := lwWd cs c3 a bb o z n f g h) (ws' := lwWd cs c3 a bb o z' n' f' g h) (ov := some (.int (nI k))) (rest := []) (vx_runSW (As := [.ref (a 0), .int (xs (3 + 4 * k0 + 1)), .int (xs (3 + 4 * k0 + 2)), .ref o]) (rest := []) ⟨hx, hb, hml, hown, hts⟩ (hMx H.size) (vx_cwSW 4 hts gL_law_L_port rfl rfl rfl (by decide +kernel) ⟨Nat.le_of_ble_eq_true rfl, Nat.le_of_ble_eq_true rfl⟩) (hp_preS hP hK hD hT hN hS) rfl rfl hl.1 rfl (lv_room (Nat.le_of_ble_eq_true rfl)) dL_law_310 ⟨by show 50 + k0 + 1 ≤ 601024; omega, by show 2000 + 6 * k0 + 6 ≤ 7293000; omega⟩) hS hD hA rfl (fun H locs hP hD hS => ?_)
  refine W.eq (g2 := F0 m 313 ls (.int (nI k) :: [])) rfl ?_
  refine lv_istore (lv' := [(5, .int (nI k)), (0, .ref b), (1, .ref (a 0)), (2, .ref (bb 0)), (3, .ref o), (4, .int (nI (3 + 4 * k0)))]) hx hb dL_law_313 hl (by decide) rfl (fun ls hl => ?_)
  refine lv_aload_n hx hb dL_law_315 rfl (lv_at hl 3 rfl) ?_
  refine lv_aload_n hx hb dL_law_316 rfl (lv_at hl 1 rfl) ?_
  refine lv_iload hx hb dL_law_317 (lv_at hl 5 rfl) ?_
  refine lv_iconst (v := nI 1) hx hb dL_law_319 (by decide) ?_
  refine lv_iadd hx hb dL_law_320 ?_
  refine tp_eq (nI_add (3 + 4 * k0) 1) ?_
  refine la_sld hx hb hX hbl hbA hS (j := 3 + 4 * k0 + 1) (by omega) hL dL_law_321 ?_
  refine lv_aload_n hx hb dL_law_322 rfl (lv_at hl 1 rfl) ?_
  refine lv_iload hx hb dL_law_323 (lv_at hl 5 rfl) ?_
  refine lv_iconst (v := nI 2) hx hb dL_law_325 (by decide) ?_
  refine lv_iadd hx hb dL_law_326 ?_
  refine tp_eq (nI_add (3 + 4 * k0) 2) ?_
  refine la_sld hx hb hX hbl hbA hS (j := 3 + 4 * k0 + 2) (by omega) hL dL_law_327 ?_
  rw [lw_split] at hP hD
  have hPm : va_P (dC, dI) vwCl (wM cs bb g h) H := blkP (w0 := wX cs a n' f' ++ [(o, .inl (c3, 1, .inr (.inl z')))]) (wr := []) hP
  have hDm : va_D (newA s) (wM cs bb g h) := blkD (w0 := wX cs a n' f' ++ [(o, .inl (c3, 1, .inr (.inl z')))]) (wr := []) hD
  refine blk_call (w0 := wX cs a n' f' ++ [(o, .inl (c3, 1, .inr (.inl z')))]) (wc := wM cs bb g h) (wr := []) (w1 := wM cs bb g' h') (ov := some (.int r9)) (rest := []) (va_runV (As := [.int (xs (3 + 4 * k0 + 1)), .int (xs (3 + 4 * k0 + 2))]) (rest := []) ⟨hx, hb, hml, hown, hts⟩ (hMm H.size) (cwV 2 hts gL_law_X4_port rfl hrc hrs (by decide +kernel) ⟨by show rm.frames + 1 ≤ 11; omega, by show _ + rm.locals ≤ 394; omega⟩) (wr_preV (q := (RX4, TX4, 29)) hPm hKc hDm 0 rfl rfl) rfl rfl hl.1 rfl (lv_room (Nat.le_of_ble_eq_true rfl)) dL_law_328 ⟨by show 50 + k0 + 1 + 0 ≤ 601024; omega, by show 2000 + 6 * k0 + 6 + 0 ≤ 7293000; omega⟩) hS hP hD hA rfl (fun H locs hP hD hS => ?_)
  refine W.eq (g2 := F0 m 331 ls (.int r9 :: [])) rfl ?_
  refine lv_istore (lv' := [(6, .int r9), (5, .int (nI k)), (0, .ref b), (1, .ref (a 0)), (2, .ref (bb 0)), (3, .ref o), (4, .int (nI (3 + 4 * k0)))]) hx hb dL_law_331 hl (by decide) rfl (fun ls hl => ?_)
  refine lv_aload_n hx hb dL_law_333 rfl (lv_at hl 4 rfl) ?_
  have hPm : va_P (dC, dI) vwCl (wM cs bb g' h') H := blkP (w0 := wX cs a n' f' ++ [(o, .inl (c3, 1, .inr (.inl z')))]) (wr := []) hP
  refine W.callR (W.runV (As := []) (rest := []) ⟨hx, hb, hml, hown, hts⟩ (c_X4_thrown l dC dI cs bb g' h' (RA_m hR.1.1)) (cwV 0 hts gL_law_X4_thrown rfl rfl rfl (by decide +kernel) ⟨Nat.le_of_ble_eq_true rfl, Nat.le_of_ble_eq_true rfl⟩) (rd_preV (q := (RX4, TX4, 29)) hPm hKc 0 rfl rfl) rfl rfl hl.1 rfl (lv_room (Nat.le_of_ble_eq_true rfl)) dL_law_334 ⟨by show 50 + k0 + 1 + 0 ≤ 601024; omega, by show 2000 + 6 * k0 + 6 + 0 ≤ 7293000; omega⟩) ?_
  refine W.eq (g2 := F0 m 337 ls (.int (nI (g' 0)) :: [])) rfl ?_
  refine lv_iload hx hb dL_law_337 (lv_at hl 1 rfl) ?_
  refine lv_icmp_eq (tgt := 344) hx hb dL_law_339 (by decide) (fun _ => ?_) (fun q => absurd (by rw [hk0]) q)
  refine lv_iload hx hb dL_law_344 (lv_at hl 1 rfl) ?_
  refine lv_if_ne (tgt := 361) hx hb dL_law_346 (by decide) (fun _ => lv_goto (tgt := 1030) hx hb dL_law_361 (by decide) (kk H locs ls ⟨n', f', g', h', z', hR, by rw [lw_split]; exact hP, by rw [lw_split]; exact hD, hS⟩ (lv_sub hl [2, 3, 4, 5, 6] rfl))) (fun q => ?_)
  have hkz : k = 0 := (nI_z (by omega)).mp q
  refine lv_aload_n hx hb dL_law_349 rfl (lv_at hl 5 rfl) ?_
  refine lv_iconst (v := nI 0) hx hb dL_law_350 (by decide) ?_
  refine la_lald hx hb hK hP 19 2 rfl rfl dL_law_351 ?_
  refine lv_iload hx hb dL_law_352 (lv_at hl 0 rfl) ?_
  refine lv_i2l hx hb dL_law_354 rfl ?_
  refine W.lcmp hx hb dL_law_355 ?_
  exact lv_if_eq (tgt := 361) hx hb dL_law_356 (by decide) (fun _ => lv_goto (tgt := 1030) hx hb dL_law_361 (by decide) (kk H locs ls ⟨n', f', g', h', z', hR, by rw [lw_split]; exact hP, by rw [lw_split]; exact hD, hS⟩ (lv_sub hl [2, 3, 4, 5, 6] rfl))) (fun q => absurd ((lg_cmp_eq _ _).mpr (hz hkz)) q)
set_option maxHeartbeats 4000000 in
set_option maxRecDepth 100000 in
theorem cs_select {p : Program} {l : Launch} {e : Env} {s : State} {m : MethodId} {below : List Frame} {meth : Method} {c : Code} {H : Heap} {locs : List Loc} {Q : State → Prop} {ls : Array Slot} {dC : Nat → ClassId} {dI : Nat → Nat → Nat} {cs : ClassId × ClassId} {c3 : ClassId} {a bb : Nat → Nat} {o b L : Nat} {xs : Nat → Int32} (C0 : lwX l p s m meth c (dC, dI) cs c3 b L xs) {k0 : Nat} (hi : 3 + 4 * k0 + 4 ≤ L) (S0 : lwS s (dC, dI) cs c3 a bb o k0 H locs) (hl : lv_has ls 7 [(0, .ref b), (1, .ref (a 0)), (2, .ref (bb 0)), (3, .ref o), (4, .int (nI (3 + 4 * k0)))]) (kk : ∀ (H : Heap) (locs : List Loc) (ls : Array Slot), lwS s (dC, dI) cs c3 a bb o (k0 + 1) H locs → lv_has ls 7 [(0, .ref b), (1, .ref (a 0)), (2, .ref (bb 0)), (3, .ref o), (4, .int (nI (3 + 4 * k0)))] → W p l e room_1 s m #[Value.ref b] below meth c H locs (50 + k0 + 1) (2000 + 6 * k0 + 6) Q (F0 m 1030 ls [])) : W p l e room_1 s m #[Value.ref b] below meth c H locs (50 + k0) (2000 + 6 * k0) Q (F0 m 364 ls []) := by
  obtain ⟨hlt, hx, hb, hml, hown, hts, hX, hbl, hK, hT, hN, hL⟩ := C0
  obtain ⟨n, f, g, h, z, r, hP, hD, hS⟩ := S0
  have hA : ∀ q, s.heap.size ≤ q → newA s q := fun _ q => q
  have hbA : ¬ newA s b := fun q => absurd hbl (Nat.not_lt.mpr q)
  have hKc : va_K (dC, dI) vwCl (tyl cs) s := hK.sub [0, 1] rfl
  refine lv_aload_n hx hb dL_law_364 rfl (lv_at hl 1 rfl) ?_
  refine lv_aload_n hx hb dL_law_365 rfl (lv_at hl 0 rfl) ?_
  refine lv_iload hx hb dL_law_366 (lv_at hl 4 rfl) ?_
  refine lv_iconst (v := nI 1) hx hb dL_law_368 (by decide) ?_
  refine lv_iadd hx hb dL_law_369 ?_
  refine tp_eq (nI_add (3 + 4 * k0) 1) ?_
  refine la_sld hx hb hX hbl hbA hS (j := 3 + 4 * k0 + 1) (by omega) hL dL_law_370 ?_
  refine lv_aload_n hx hb dL_law_371 rfl (lv_at hl 3 rfl) ?_
  obtain ⟨n', f', g', h', z', k, r9, hMx, ⟨rm, hrc, hrs, hrf, hrl, hMm⟩, hk0, hk4, hz, hR⟩ := op_select l hlt dC dI cs c3 a bb o r (by omega) (xs (3 + 4 * k0 + 1)) z
  refine wr_callg (ws := lwWd cs c3 a bb o z n f g h) (ws' := lwWd cs c3 a bb o z' n' f' g h) (ov := some (.int (nI k))) (rest := []) (vx_runSW (As := [.ref (a 0), .int (xs (3 + 4 * k0 + 1)), .ref o]) (rest := []) ⟨hx, hb, hml, hown, hts⟩ (hMx H.size) (vx_cwSW 3 hts gL_law_L_select rfl rfl rfl (by decide +kernel) ⟨Nat.le_of_ble_eq_true rfl, Nat.le_of_ble_eq_true rfl⟩) (hp_preS hP hK hD hT hN hS) rfl rfl hl.1 rfl (lv_room (Nat.le_of_ble_eq_true rfl)) dL_law_372 ⟨by show 50 + k0 + 1 ≤ 601024; omega, by show 2000 + 6 * k0 + 6 ≤ 7293000; omega⟩) hS hD hA rfl (fun H locs hP hD hS => ?_)
  refine W.eq (g2 := F0 m 375 ls (.int (nI k) :: [])) rfl ?_
  refine lv_istore (lv' := [(5, .int (nI k)), (0, .ref b), (1, .ref (a 0)), (2, .ref (bb 0)), (3, .ref o), (4, .int (nI (3 + 4 * k0)))]) hx hb dL_law_375 hl (by decide) rfl (fun ls hl => ?_)
  refine lv_aload_n hx hb dL_law_377 rfl (lv_at hl 3 rfl) ?_
  refine lv_aload_n hx hb dL_law_378 rfl (lv_at hl 1 rfl) ?_
  refine lv_iload hx hb dL_law_379 (lv_at hl 5 rfl) ?_
  refine lv_iconst (v := nI 1) hx hb dL_law_381 (by decide) ?_
  refine lv_iadd hx hb dL_law_382 ?_
  refine tp_eq (nI_add (3 + 4 * k0) 1) ?_
  refine la_sld hx hb hX hbl hbA hS (j := 3 + 4 * k0 + 1) (by omega) hL dL_law_383 ?_
  rw [lw_split] at hP hD
  have hPm : va_P (dC, dI) vwCl (wM cs bb g h) H := blkP (w0 := wX cs a n' f' ++ [(o, .inl (c3, 1, .inr (.inl z')))]) (wr := []) hP
  have hDm : va_D (newA s) (wM cs bb g h) := blkD (w0 := wX cs a n' f' ++ [(o, .inl (c3, 1, .inr (.inl z')))]) (wr := []) hD
  refine blk_call (w0 := wX cs a n' f' ++ [(o, .inl (c3, 1, .inr (.inl z')))]) (wc := wM cs bb g h) (wr := []) (w1 := wM cs bb g' h') (ov := some (.int r9)) (rest := []) (va_runV (As := [.int (xs (3 + 4 * k0 + 1))]) (rest := []) ⟨hx, hb, hml, hown, hts⟩ (hMm H.size) (cwV 1 hts gL_law_X4_select rfl hrc hrs (by decide +kernel) ⟨by show rm.frames + 1 ≤ 11; omega, by show _ + rm.locals ≤ 394; omega⟩) (wr_preV (q := (RX4, TX4, 29)) hPm hKc hDm 0 rfl rfl) rfl rfl hl.1 rfl (lv_room (Nat.le_of_ble_eq_true rfl)) dL_law_384 ⟨by show 50 + k0 + 1 + 0 ≤ 601024; omega, by show 2000 + 6 * k0 + 6 + 0 ≤ 7293000; omega⟩) hS hP hD hA rfl (fun H locs hP hD hS => ?_)
  refine W.eq (g2 := F0 m 387 ls (.int r9 :: [])) rfl ?_
  refine lv_istore (lv' := [(6, .int r9), (5, .int (nI k)), (0, .ref b), (1, .ref (a 0)), (2, .ref (bb 0)), (3, .ref o), (4, .int (nI (3 + 4 * k0)))]) hx hb dL_law_387 hl (by decide) rfl (fun ls hl => ?_)
  refine lv_aload_n hx hb dL_law_389 rfl (lv_at hl 4 rfl) ?_
  have hPm : va_P (dC, dI) vwCl (wM cs bb g' h') H := blkP (w0 := wX cs a n' f' ++ [(o, .inl (c3, 1, .inr (.inl z')))]) (wr := []) hP
  refine W.callR (W.runV (As := []) (rest := []) ⟨hx, hb, hml, hown, hts⟩ (c_X4_thrown l dC dI cs bb g' h' (RA_m hR.1.1)) (cwV 0 hts gL_law_X4_thrown rfl rfl rfl (by decide +kernel) ⟨Nat.le_of_ble_eq_true rfl, Nat.le_of_ble_eq_true rfl⟩) (rd_preV (q := (RX4, TX4, 29)) hPm hKc 0 rfl rfl) rfl rfl hl.1 rfl (lv_room (Nat.le_of_ble_eq_true rfl)) dL_law_390 ⟨by show 50 + k0 + 1 + 0 ≤ 601024; omega, by show 2000 + 6 * k0 + 6 + 0 ≤ 7293000; omega⟩) ?_
  refine W.eq (g2 := F0 m 393 ls (.int (nI (g' 0)) :: [])) rfl ?_
  refine lv_iload hx hb dL_law_393 (lv_at hl 1 rfl) ?_
  refine lv_icmp_eq (tgt := 400) hx hb dL_law_395 (by decide) (fun _ => ?_) (fun q => absurd (by rw [hk0]) q)
  refine lv_iload hx hb dL_law_400 (lv_at hl 1 rfl) ?_
  refine lv_if_ne (tgt := 417) hx hb dL_law_402 (by decide) (fun _ => lv_goto (tgt := 1030) hx hb dL_law_417 (by decide) (kk H locs ls ⟨n', f', g', h', z', hR, by rw [lw_split]; exact hP, by rw [lw_split]; exact hD, hS⟩ (lv_sub hl [2, 3, 4, 5, 6] rfl))) (fun q => ?_)
  have hkz : k = 0 := (nI_z (by omega)).mp q
  refine lv_aload_n hx hb dL_law_405 rfl (lv_at hl 5 rfl) ?_
  refine lv_iconst (v := nI 0) hx hb dL_law_406 (by decide) ?_
  refine la_lald hx hb hK hP 19 2 rfl rfl dL_law_407 ?_
  refine lv_iload hx hb dL_law_408 (lv_at hl 0 rfl) ?_
  refine lv_i2l hx hb dL_law_410 rfl ?_
  refine W.lcmp hx hb dL_law_411 ?_
  exact lv_if_eq (tgt := 417) hx hb dL_law_412 (by decide) (fun _ => lv_goto (tgt := 1030) hx hb dL_law_417 (by decide) (kk H locs ls ⟨n', f', g', h', z', hR, by rw [lw_split]; exact hP, by rw [lw_split]; exact hD, hS⟩ (lv_sub hl [2, 3, 4, 5, 6] rfl))) (fun q => absurd ((lg_cmp_eq _ _).mpr (hz hkz)) q)
set_option maxHeartbeats 4000000 in
set_option maxRecDepth 100000 in
theorem cs_selected {p : Program} {l : Launch} {e : Env} {s : State} {m : MethodId} {below : List Frame} {meth : Method} {c : Code} {H : Heap} {locs : List Loc} {Q : State → Prop} {ls : Array Slot} {dC : Nat → ClassId} {dI : Nat → Nat → Nat} {cs : ClassId × ClassId} {c3 : ClassId} {a bb : Nat → Nat} {o b L : Nat} {xs : Nat → Int32} (C0 : lwX l p s m meth c (dC, dI) cs c3 b L xs) {k0 : Nat} (hi : 3 + 4 * k0 + 4 ≤ L) (S0 : lwS s (dC, dI) cs c3 a bb o k0 H locs) (hl : lv_has ls 7 [(0, .ref b), (1, .ref (a 0)), (2, .ref (bb 0)), (3, .ref o), (4, .int (nI (3 + 4 * k0)))]) (kk : ∀ (H : Heap) (locs : List Loc) (ls : Array Slot), lwS s (dC, dI) cs c3 a bb o (k0 + 1) H locs → lv_has ls 7 [(0, .ref b), (1, .ref (a 0)), (2, .ref (bb 0)), (3, .ref o), (4, .int (nI (3 + 4 * k0)))] → W p l e room_1 s m #[Value.ref b] below meth c H locs (50 + k0 + 1) (2000 + 6 * k0 + 6) Q (F0 m 1030 ls [])) : W p l e room_1 s m #[Value.ref b] below meth c H locs (50 + k0) (2000 + 6 * k0) Q (F0 m 420 ls []) := by
  obtain ⟨hlt, hx, hb, hml, hown, hts, hX, hbl, hK, hT, hN, hL⟩ := C0
  obtain ⟨n, f, g, h, z, r, hP, hD, hS⟩ := S0
  have hA : ∀ q, s.heap.size ≤ q → newA s q := fun _ q => q
  have hbA : ¬ newA s b := fun q => absurd hbl (Nat.not_lt.mpr q)
  have hKc : va_K (dC, dI) vwCl (tyl cs) s := hK.sub [0, 1] rfl
  refine lv_aload_n hx hb dL_law_420 rfl (lv_at hl 1 rfl) ?_
  refine lv_aload_n hx hb dL_law_421 rfl (lv_at hl 0 rfl) ?_
  refine lv_iload hx hb dL_law_422 (lv_at hl 4 rfl) ?_
  refine lv_iconst (v := nI 1) hx hb dL_law_424 (by decide) ?_
  refine lv_iadd hx hb dL_law_425 ?_
  refine tp_eq (nI_add (3 + 4 * k0) 1) ?_
  refine la_sld hx hb hX hbl hbA hS (j := 3 + 4 * k0 + 1) (by omega) hL dL_law_426 ?_
  refine lv_aload_n hx hb dL_law_427 rfl (lv_at hl 3 rfl) ?_
  obtain ⟨n', f', g', h', z', k, r9, hMx, ⟨rm, hrc, hrs, hrf, hrl, hMm⟩, hk0, hk4, hz, hR⟩ := op_selected l hlt dC dI cs c3 a bb o r (by omega) (xs (3 + 4 * k0 + 1)) z
  refine wr_callg (ws := lwWd cs c3 a bb o z n f g h) (ws' := lwWd cs c3 a bb o z' n' f' g h) (ov := some (.int (nI k))) (rest := []) (vx_runSW (As := [.ref (a 0), .int (xs (3 + 4 * k0 + 1)), .ref o]) (rest := []) ⟨hx, hb, hml, hown, hts⟩ (hMx H.size) (vx_cwSW 3 hts gL_law_L_selected rfl rfl rfl (by decide +kernel) ⟨Nat.le_of_ble_eq_true rfl, Nat.le_of_ble_eq_true rfl⟩) (hp_preS hP hK hD hT hN hS) rfl rfl hl.1 rfl (lv_room (Nat.le_of_ble_eq_true rfl)) dL_law_428 ⟨by show 50 + k0 + 1 ≤ 601024; omega, by show 2000 + 6 * k0 + 6 ≤ 7293000; omega⟩) hS hD hA rfl (fun H locs hP hD hS => ?_)
  refine W.eq (g2 := F0 m 431 ls (.int (nI k) :: [])) rfl ?_
  refine lv_istore (lv' := [(5, .int (nI k)), (0, .ref b), (1, .ref (a 0)), (2, .ref (bb 0)), (3, .ref o), (4, .int (nI (3 + 4 * k0)))]) hx hb dL_law_431 hl (by decide) rfl (fun ls hl => ?_)
  refine lv_aload_n hx hb dL_law_433 rfl (lv_at hl 3 rfl) ?_
  refine lv_aload_n hx hb dL_law_434 rfl (lv_at hl 1 rfl) ?_
  refine lv_iload hx hb dL_law_435 (lv_at hl 5 rfl) ?_
  refine lv_iconst (v := nI 1) hx hb dL_law_437 (by decide) ?_
  refine lv_iadd hx hb dL_law_438 ?_
  refine tp_eq (nI_add (3 + 4 * k0) 1) ?_
  refine la_sld hx hb hX hbl hbA hS (j := 3 + 4 * k0 + 1) (by omega) hL dL_law_439 ?_
  rw [lw_split] at hP hD
  have hPm : va_P (dC, dI) vwCl (wM cs bb g h) H := blkP (w0 := wX cs a n' f' ++ [(o, .inl (c3, 1, .inr (.inl z')))]) (wr := []) hP
  have hDm : va_D (newA s) (wM cs bb g h) := blkD (w0 := wX cs a n' f' ++ [(o, .inl (c3, 1, .inr (.inl z')))]) (wr := []) hD
  refine blk_call (w0 := wX cs a n' f' ++ [(o, .inl (c3, 1, .inr (.inl z')))]) (wc := wM cs bb g h) (wr := []) (w1 := wM cs bb g' h') (ov := some (.int r9)) (rest := []) (va_runV (As := [.int (xs (3 + 4 * k0 + 1))]) (rest := []) ⟨hx, hb, hml, hown, hts⟩ (hMm H.size) (cwV 1 hts gL_law_X4_selected rfl hrc hrs (by decide +kernel) ⟨by show rm.frames + 1 ≤ 11; omega, by show _ + rm.locals ≤ 394; omega⟩) (wr_preV (q := (RX4, TX4, 29)) hPm hKc hDm 0 rfl rfl) rfl rfl hl.1 rfl (lv_room (Nat.le_of_ble_eq_true rfl)) dL_law_440 ⟨by show 50 + k0 + 1 + 0 ≤ 601024; omega, by show 2000 + 6 * k0 + 6 + 0 ≤ 7293000; omega⟩) hS hP hD hA rfl (fun H locs hP hD hS => ?_)
  refine W.eq (g2 := F0 m 443 ls (.int r9 :: [])) rfl ?_
  refine lv_istore (lv' := [(6, .int r9), (5, .int (nI k)), (0, .ref b), (1, .ref (a 0)), (2, .ref (bb 0)), (3, .ref o), (4, .int (nI (3 + 4 * k0)))]) hx hb dL_law_443 hl (by decide) rfl (fun ls hl => ?_)
  refine lv_aload_n hx hb dL_law_445 rfl (lv_at hl 4 rfl) ?_
  have hPm : va_P (dC, dI) vwCl (wM cs bb g' h') H := blkP (w0 := wX cs a n' f' ++ [(o, .inl (c3, 1, .inr (.inl z')))]) (wr := []) hP
  refine W.callR (W.runV (As := []) (rest := []) ⟨hx, hb, hml, hown, hts⟩ (c_X4_thrown l dC dI cs bb g' h' (RA_m hR.1.1)) (cwV 0 hts gL_law_X4_thrown rfl rfl rfl (by decide +kernel) ⟨Nat.le_of_ble_eq_true rfl, Nat.le_of_ble_eq_true rfl⟩) (rd_preV (q := (RX4, TX4, 29)) hPm hKc 0 rfl rfl) rfl rfl hl.1 rfl (lv_room (Nat.le_of_ble_eq_true rfl)) dL_law_446 ⟨by show 50 + k0 + 1 + 0 ≤ 601024; omega, by show 2000 + 6 * k0 + 6 + 0 ≤ 7293000; omega⟩) ?_
  refine W.eq (g2 := F0 m 449 ls (.int (nI (g' 0)) :: [])) rfl ?_
  refine lv_iload hx hb dL_law_449 (lv_at hl 1 rfl) ?_
  refine lv_icmp_eq (tgt := 456) hx hb dL_law_451 (by decide) (fun _ => ?_) (fun q => absurd (by rw [hk0]) q)
  refine lv_iload hx hb dL_law_456 (lv_at hl 1 rfl) ?_
  refine lv_if_ne (tgt := 473) hx hb dL_law_458 (by decide) (fun _ => lv_goto (tgt := 1030) hx hb dL_law_473 (by decide) (kk H locs ls ⟨n', f', g', h', z', hR, by rw [lw_split]; exact hP, by rw [lw_split]; exact hD, hS⟩ (lv_sub hl [2, 3, 4, 5, 6] rfl))) (fun q => ?_)
  have hkz : k = 0 := (nI_z (by omega)).mp q
  refine lv_aload_n hx hb dL_law_461 rfl (lv_at hl 5 rfl) ?_
  refine lv_iconst (v := nI 0) hx hb dL_law_462 (by decide) ?_
  refine la_lald hx hb hK hP 19 2 rfl rfl dL_law_463 ?_
  refine lv_iload hx hb dL_law_464 (lv_at hl 0 rfl) ?_
  refine lv_i2l hx hb dL_law_466 rfl ?_
  refine W.lcmp hx hb dL_law_467 ?_
  exact lv_if_eq (tgt := 473) hx hb dL_law_468 (by decide) (fun _ => lv_goto (tgt := 1030) hx hb dL_law_473 (by decide) (kk H locs ls ⟨n', f', g', h', z', hR, by rw [lw_split]; exact hP, by rw [lw_split]; exact hD, hS⟩ (lv_sub hl [2, 3, 4, 5, 6] rfl))) (fun q => absurd ((lg_cmp_eq _ _).mpr (hz hkz)) q)
set_option maxHeartbeats 4000000 in
set_option maxRecDepth 100000 in
theorem cs_end {p : Program} {l : Launch} {e : Env} {s : State} {m : MethodId} {below : List Frame} {meth : Method} {c : Code} {H : Heap} {locs : List Loc} {Q : State → Prop} {ls : Array Slot} {dC : Nat → ClassId} {dI : Nat → Nat → Nat} {cs : ClassId × ClassId} {c3 : ClassId} {a bb : Nat → Nat} {o b L : Nat} {xs : Nat → Int32} (C0 : lwX l p s m meth c (dC, dI) cs c3 b L xs) {k0 : Nat} (hi : 3 + 4 * k0 + 4 ≤ L) (S0 : lwS s (dC, dI) cs c3 a bb o k0 H locs) (hl : lv_has ls 7 [(0, .ref b), (1, .ref (a 0)), (2, .ref (bb 0)), (3, .ref o), (4, .int (nI (3 + 4 * k0)))]) (kk : ∀ (H : Heap) (locs : List Loc) (ls : Array Slot), lwS s (dC, dI) cs c3 a bb o (k0 + 1) H locs → lv_has ls 7 [(0, .ref b), (1, .ref (a 0)), (2, .ref (bb 0)), (3, .ref o), (4, .int (nI (3 + 4 * k0)))] → W p l e room_1 s m #[Value.ref b] below meth c H locs (50 + k0 + 1) (2000 + 6 * k0 + 6) Q (F0 m 1030 ls [])) : W p l e room_1 s m #[Value.ref b] below meth c H locs (50 + k0) (2000 + 6 * k0) Q (F0 m 476 ls []) := by
  obtain ⟨hlt, hx, hb, hml, hown, hts, hX, hbl, hK, hT, hN, hL⟩ := C0
  obtain ⟨n, f, g, h, z, r, hP, hD, hS⟩ := S0
  have hA : ∀ q, s.heap.size ≤ q → newA s q := fun _ q => q
  have hbA : ¬ newA s b := fun q => absurd hbl (Nat.not_lt.mpr q)
  have hKc : va_K (dC, dI) vwCl (tyl cs) s := hK.sub [0, 1] rfl
  refine lv_aload_n hx hb dL_law_476 rfl (lv_at hl 1 rfl) ?_
  refine lv_aload_n hx hb dL_law_477 rfl (lv_at hl 0 rfl) ?_
  refine lv_iload hx hb dL_law_478 (lv_at hl 4 rfl) ?_
  refine lv_iconst (v := nI 1) hx hb dL_law_480 (by decide) ?_
  refine lv_iadd hx hb dL_law_481 ?_
  refine tp_eq (nI_add (3 + 4 * k0) 1) ?_
  refine la_sld hx hb hX hbl hbA hS (j := 3 + 4 * k0 + 1) (by omega) hL dL_law_482 ?_
  refine lv_aload_n hx hb dL_law_483 rfl (lv_at hl 3 rfl) ?_
  obtain ⟨n', f', g', h', z', k, r9, hMx, ⟨rm, hrc, hrs, hrf, hrl, hMm⟩, hk0, hk4, hz, hR⟩ := op_end l hlt dC dI cs c3 a bb o r (by omega) (xs (3 + 4 * k0 + 1)) z
  refine wr_callg (ws := lwWd cs c3 a bb o z n f g h) (ws' := lwWd cs c3 a bb o z' n' f' g h) (ov := some (.int (nI k))) (rest := []) (vx_runSW (As := [.ref (a 0), .int (xs (3 + 4 * k0 + 1)), .ref o]) (rest := []) ⟨hx, hb, hml, hown, hts⟩ (hMx H.size) (vx_cwSW 3 hts gL_law_L_end rfl rfl rfl (by decide +kernel) ⟨Nat.le_of_ble_eq_true rfl, Nat.le_of_ble_eq_true rfl⟩) (hp_preS hP hK hD hT hN hS) rfl rfl hl.1 rfl (lv_room (Nat.le_of_ble_eq_true rfl)) dL_law_484 ⟨by show 50 + k0 + 1 ≤ 601024; omega, by show 2000 + 6 * k0 + 6 ≤ 7293000; omega⟩) hS hD hA rfl (fun H locs hP hD hS => ?_)
  refine W.eq (g2 := F0 m 487 ls (.int (nI k) :: [])) rfl ?_
  refine lv_istore (lv' := [(5, .int (nI k)), (0, .ref b), (1, .ref (a 0)), (2, .ref (bb 0)), (3, .ref o), (4, .int (nI (3 + 4 * k0)))]) hx hb dL_law_487 hl (by decide) rfl (fun ls hl => ?_)
  refine lv_aload_n hx hb dL_law_489 rfl (lv_at hl 3 rfl) ?_
  refine lv_aload_n hx hb dL_law_490 rfl (lv_at hl 1 rfl) ?_
  refine lv_iload hx hb dL_law_491 (lv_at hl 5 rfl) ?_
  refine lv_iconst (v := nI 1) hx hb dL_law_493 (by decide) ?_
  refine lv_iadd hx hb dL_law_494 ?_
  refine tp_eq (nI_add (3 + 4 * k0) 1) ?_
  refine la_sld hx hb hX hbl hbA hS (j := 3 + 4 * k0 + 1) (by omega) hL dL_law_495 ?_
  rw [lw_split] at hP hD
  have hPm : va_P (dC, dI) vwCl (wM cs bb g h) H := blkP (w0 := wX cs a n' f' ++ [(o, .inl (c3, 1, .inr (.inl z')))]) (wr := []) hP
  have hDm : va_D (newA s) (wM cs bb g h) := blkD (w0 := wX cs a n' f' ++ [(o, .inl (c3, 1, .inr (.inl z')))]) (wr := []) hD
  refine blk_call (w0 := wX cs a n' f' ++ [(o, .inl (c3, 1, .inr (.inl z')))]) (wc := wM cs bb g h) (wr := []) (w1 := wM cs bb g' h') (ov := some (.int r9)) (rest := []) (va_runV (As := [.int (xs (3 + 4 * k0 + 1))]) (rest := []) ⟨hx, hb, hml, hown, hts⟩ (hMm H.size) (cwV 1 hts gL_law_X4_end rfl hrc hrs (by decide +kernel) ⟨by show rm.frames + 1 ≤ 11; omega, by show _ + rm.locals ≤ 394; omega⟩) (wr_preV (q := (RX4, TX4, 29)) hPm hKc hDm 0 rfl rfl) rfl rfl hl.1 rfl (lv_room (Nat.le_of_ble_eq_true rfl)) dL_law_496 ⟨by show 50 + k0 + 1 + 0 ≤ 601024; omega, by show 2000 + 6 * k0 + 6 + 0 ≤ 7293000; omega⟩) hS hP hD hA rfl (fun H locs hP hD hS => ?_)
  refine W.eq (g2 := F0 m 499 ls (.int r9 :: [])) rfl ?_
  refine lv_istore (lv' := [(6, .int r9), (5, .int (nI k)), (0, .ref b), (1, .ref (a 0)), (2, .ref (bb 0)), (3, .ref o), (4, .int (nI (3 + 4 * k0)))]) hx hb dL_law_499 hl (by decide) rfl (fun ls hl => ?_)
  refine lv_aload_n hx hb dL_law_501 rfl (lv_at hl 4 rfl) ?_
  have hPm : va_P (dC, dI) vwCl (wM cs bb g' h') H := blkP (w0 := wX cs a n' f' ++ [(o, .inl (c3, 1, .inr (.inl z')))]) (wr := []) hP
  refine W.callR (W.runV (As := []) (rest := []) ⟨hx, hb, hml, hown, hts⟩ (c_X4_thrown l dC dI cs bb g' h' (RA_m hR.1.1)) (cwV 0 hts gL_law_X4_thrown rfl rfl rfl (by decide +kernel) ⟨Nat.le_of_ble_eq_true rfl, Nat.le_of_ble_eq_true rfl⟩) (rd_preV (q := (RX4, TX4, 29)) hPm hKc 0 rfl rfl) rfl rfl hl.1 rfl (lv_room (Nat.le_of_ble_eq_true rfl)) dL_law_502 ⟨by show 50 + k0 + 1 + 0 ≤ 601024; omega, by show 2000 + 6 * k0 + 6 + 0 ≤ 7293000; omega⟩) ?_
  refine W.eq (g2 := F0 m 505 ls (.int (nI (g' 0)) :: [])) rfl ?_
  refine lv_iload hx hb dL_law_505 (lv_at hl 1 rfl) ?_
  refine lv_icmp_eq (tgt := 512) hx hb dL_law_507 (by decide) (fun _ => ?_) (fun q => absurd (by rw [hk0]) q)
  refine lv_iload hx hb dL_law_512 (lv_at hl 1 rfl) ?_
  refine lv_if_ne (tgt := 529) hx hb dL_law_514 (by decide) (fun _ => lv_goto (tgt := 1030) hx hb dL_law_529 (by decide) (kk H locs ls ⟨n', f', g', h', z', hR, by rw [lw_split]; exact hP, by rw [lw_split]; exact hD, hS⟩ (lv_sub hl [2, 3, 4, 5, 6] rfl))) (fun q => ?_)
  have hkz : k = 0 := (nI_z (by omega)).mp q
  refine lv_aload_n hx hb dL_law_517 rfl (lv_at hl 5 rfl) ?_
  refine lv_iconst (v := nI 0) hx hb dL_law_518 (by decide) ?_
  refine la_lald hx hb hK hP 19 2 rfl rfl dL_law_519 ?_
  refine lv_iload hx hb dL_law_520 (lv_at hl 0 rfl) ?_
  refine lv_i2l hx hb dL_law_522 rfl ?_
  refine W.lcmp hx hb dL_law_523 ?_
  exact lv_if_eq (tgt := 529) hx hb dL_law_524 (by decide) (fun _ => lv_goto (tgt := 1030) hx hb dL_law_529 (by decide) (kk H locs ls ⟨n', f', g', h', z', hR, by rw [lw_split]; exact hP, by rw [lw_split]; exact hD, hS⟩ (lv_sub hl [2, 3, 4, 5, 6] rfl))) (fun q => absurd ((lg_cmp_eq _ _).mpr (hz hkz)) q)
set_option maxHeartbeats 4000000 in
set_option maxRecDepth 100000 in
theorem cs_commit {p : Program} {l : Launch} {e : Env} {s : State} {m : MethodId} {below : List Frame} {meth : Method} {c : Code} {H : Heap} {locs : List Loc} {Q : State → Prop} {ls : Array Slot} {dC : Nat → ClassId} {dI : Nat → Nat → Nat} {cs : ClassId × ClassId} {c3 : ClassId} {a bb : Nat → Nat} {o b L : Nat} {xs : Nat → Int32} (C0 : lwX l p s m meth c (dC, dI) cs c3 b L xs) {k0 : Nat} (hi : 3 + 4 * k0 + 4 ≤ L) (S0 : lwS s (dC, dI) cs c3 a bb o k0 H locs) (hl : lv_has ls 7 [(0, .ref b), (1, .ref (a 0)), (2, .ref (bb 0)), (3, .ref o), (4, .int (nI (3 + 4 * k0)))]) (kk : ∀ (H : Heap) (locs : List Loc) (ls : Array Slot), lwS s (dC, dI) cs c3 a bb o (k0 + 1) H locs → lv_has ls 7 [(0, .ref b), (1, .ref (a 0)), (2, .ref (bb 0)), (3, .ref o), (4, .int (nI (3 + 4 * k0)))] → W p l e room_1 s m #[Value.ref b] below meth c H locs (50 + k0 + 1) (2000 + 6 * k0 + 6) Q (F0 m 1030 ls [])) : W p l e room_1 s m #[Value.ref b] below meth c H locs (50 + k0) (2000 + 6 * k0) Q (F0 m 532 ls []) := by
  obtain ⟨hlt, hx, hb, hml, hown, hts, hX, hbl, hK, hT, hN, hL⟩ := C0
  obtain ⟨n, f, g, h, z, r, hP, hD, hS⟩ := S0
  have hA : ∀ q, s.heap.size ≤ q → newA s q := fun _ q => q
  have hbA : ¬ newA s b := fun q => absurd hbl (Nat.not_lt.mpr q)
  have hKc : va_K (dC, dI) vwCl (tyl cs) s := hK.sub [0, 1] rfl
  refine lv_aload_n hx hb dL_law_532 rfl (lv_at hl 1 rfl) ?_
  refine lv_aload_n hx hb dL_law_533 rfl (lv_at hl 0 rfl) ?_
  refine lv_iload hx hb dL_law_534 (lv_at hl 4 rfl) ?_
  refine lv_iconst (v := nI 1) hx hb dL_law_536 (by decide) ?_
  refine lv_iadd hx hb dL_law_537 ?_
  refine tp_eq (nI_add (3 + 4 * k0) 1) ?_
  refine la_sld hx hb hX hbl hbA hS (j := 3 + 4 * k0 + 1) (by omega) hL dL_law_538 ?_
  refine lv_aload_n hx hb dL_law_539 rfl (lv_at hl 3 rfl) ?_
  obtain ⟨n', f', g', h', z', k, r9, hMx, ⟨rm, hrc, hrs, hrf, hrl, hMm⟩, hk0, hk4, hz, hR⟩ := op_commit l hlt dC dI cs c3 a bb o r (by omega) (xs (3 + 4 * k0 + 1)) z
  refine wr_callg (ws := lwWd cs c3 a bb o z n f g h) (ws' := lwWd cs c3 a bb o z' n' f' g h) (ov := some (.int (nI k))) (rest := []) (vx_runSW (As := [.ref (a 0), .int (xs (3 + 4 * k0 + 1)), .ref o]) (rest := []) ⟨hx, hb, hml, hown, hts⟩ (hMx H.size) (vx_cwSW 3 hts gL_law_L_commit rfl rfl rfl (by decide +kernel) ⟨Nat.le_of_ble_eq_true rfl, Nat.le_of_ble_eq_true rfl⟩) (hp_preS hP hK hD hT hN hS) rfl rfl hl.1 rfl (lv_room (Nat.le_of_ble_eq_true rfl)) dL_law_540 ⟨by show 50 + k0 + 1 ≤ 601024; omega, by show 2000 + 6 * k0 + 6 ≤ 7293000; omega⟩) hS hD hA rfl (fun H locs hP hD hS => ?_)
  refine W.eq (g2 := F0 m 543 ls (.int (nI k) :: [])) rfl ?_
  refine lv_istore (lv' := [(5, .int (nI k)), (0, .ref b), (1, .ref (a 0)), (2, .ref (bb 0)), (3, .ref o), (4, .int (nI (3 + 4 * k0)))]) hx hb dL_law_543 hl (by decide) rfl (fun ls hl => ?_)
  refine lv_aload_n hx hb dL_law_545 rfl (lv_at hl 3 rfl) ?_
  refine lv_aload_n hx hb dL_law_546 rfl (lv_at hl 1 rfl) ?_
  refine lv_iload hx hb dL_law_547 (lv_at hl 5 rfl) ?_
  refine lv_iconst (v := nI 1) hx hb dL_law_549 (by decide) ?_
  refine lv_iadd hx hb dL_law_550 ?_
  refine tp_eq (nI_add (3 + 4 * k0) 1) ?_
  refine la_sld hx hb hX hbl hbA hS (j := 3 + 4 * k0 + 1) (by omega) hL dL_law_551 ?_
  rw [lw_split] at hP hD
  have hPm : va_P (dC, dI) vwCl (wM cs bb g h) H := blkP (w0 := wX cs a n' f' ++ [(o, .inl (c3, 1, .inr (.inl z')))]) (wr := []) hP
  have hDm : va_D (newA s) (wM cs bb g h) := blkD (w0 := wX cs a n' f' ++ [(o, .inl (c3, 1, .inr (.inl z')))]) (wr := []) hD
  refine blk_call (w0 := wX cs a n' f' ++ [(o, .inl (c3, 1, .inr (.inl z')))]) (wc := wM cs bb g h) (wr := []) (w1 := wM cs bb g' h') (ov := some (.int r9)) (rest := []) (va_runV (As := [.int (xs (3 + 4 * k0 + 1))]) (rest := []) ⟨hx, hb, hml, hown, hts⟩ (hMm H.size) (cwV 1 hts gL_law_X4_commit rfl hrc hrs (by decide +kernel) ⟨by show rm.frames + 1 ≤ 11; omega, by show _ + rm.locals ≤ 394; omega⟩) (wr_preV (q := (RX4, TX4, 29)) hPm hKc hDm 0 rfl rfl) rfl rfl hl.1 rfl (lv_room (Nat.le_of_ble_eq_true rfl)) dL_law_552 ⟨by show 50 + k0 + 1 + 0 ≤ 601024; omega, by show 2000 + 6 * k0 + 6 + 0 ≤ 7293000; omega⟩) hS hP hD hA rfl (fun H locs hP hD hS => ?_)
  refine W.eq (g2 := F0 m 555 ls (.int r9 :: [])) rfl ?_
  refine lv_istore (lv' := [(6, .int r9), (5, .int (nI k)), (0, .ref b), (1, .ref (a 0)), (2, .ref (bb 0)), (3, .ref o), (4, .int (nI (3 + 4 * k0)))]) hx hb dL_law_555 hl (by decide) rfl (fun ls hl => ?_)
  refine lv_aload_n hx hb dL_law_557 rfl (lv_at hl 4 rfl) ?_
  have hPm : va_P (dC, dI) vwCl (wM cs bb g' h') H := blkP (w0 := wX cs a n' f' ++ [(o, .inl (c3, 1, .inr (.inl z')))]) (wr := []) hP
  refine W.callR (W.runV (As := []) (rest := []) ⟨hx, hb, hml, hown, hts⟩ (c_X4_thrown l dC dI cs bb g' h' (RA_m hR.1.1)) (cwV 0 hts gL_law_X4_thrown rfl rfl rfl (by decide +kernel) ⟨Nat.le_of_ble_eq_true rfl, Nat.le_of_ble_eq_true rfl⟩) (rd_preV (q := (RX4, TX4, 29)) hPm hKc 0 rfl rfl) rfl rfl hl.1 rfl (lv_room (Nat.le_of_ble_eq_true rfl)) dL_law_558 ⟨by show 50 + k0 + 1 + 0 ≤ 601024; omega, by show 2000 + 6 * k0 + 6 + 0 ≤ 7293000; omega⟩) ?_
  refine W.eq (g2 := F0 m 561 ls (.int (nI (g' 0)) :: [])) rfl ?_
  refine lv_iload hx hb dL_law_561 (lv_at hl 1 rfl) ?_
  refine lv_icmp_eq (tgt := 568) hx hb dL_law_563 (by decide) (fun _ => ?_) (fun q => absurd (by rw [hk0]) q)
  refine lv_iload hx hb dL_law_568 (lv_at hl 1 rfl) ?_
  refine lv_if_ne (tgt := 585) hx hb dL_law_570 (by decide) (fun _ => lv_goto (tgt := 1030) hx hb dL_law_585 (by decide) (kk H locs ls ⟨n', f', g', h', z', hR, by rw [lw_split]; exact hP, by rw [lw_split]; exact hD, hS⟩ (lv_sub hl [2, 3, 4, 5, 6] rfl))) (fun q => ?_)
  have hkz : k = 0 := (nI_z (by omega)).mp q
  refine lv_aload_n hx hb dL_law_573 rfl (lv_at hl 5 rfl) ?_
  refine lv_iconst (v := nI 0) hx hb dL_law_574 (by decide) ?_
  refine la_lald hx hb hK hP 19 2 rfl rfl dL_law_575 ?_
  refine lv_iload hx hb dL_law_576 (lv_at hl 0 rfl) ?_
  refine lv_i2l hx hb dL_law_578 rfl ?_
  refine W.lcmp hx hb dL_law_579 ?_
  exact lv_if_eq (tgt := 585) hx hb dL_law_580 (by decide) (fun _ => lv_goto (tgt := 1030) hx hb dL_law_585 (by decide) (kk H locs ls ⟨n', f', g', h', z', hR, by rw [lw_split]; exact hP, by rw [lw_split]; exact hD, hS⟩ (lv_sub hl [2, 3, 4, 5, 6] rfl))) (fun q => absurd ((lg_cmp_eq _ _).mpr (hz hkz)) q)
set_option maxHeartbeats 4000000 in
set_option maxRecDepth 100000 in
theorem cs_right {p : Program} {l : Launch} {e : Env} {s : State} {m : MethodId} {below : List Frame} {meth : Method} {c : Code} {H : Heap} {locs : List Loc} {Q : State → Prop} {ls : Array Slot} {dC : Nat → ClassId} {dI : Nat → Nat → Nat} {cs : ClassId × ClassId} {c3 : ClassId} {a bb : Nat → Nat} {o b L : Nat} {xs : Nat → Int32} (C0 : lwX l p s m meth c (dC, dI) cs c3 b L xs) {k0 : Nat} (hi : 3 + 4 * k0 + 4 ≤ L) (S0 : lwS s (dC, dI) cs c3 a bb o k0 H locs) (hl : lv_has ls 7 [(0, .ref b), (1, .ref (a 0)), (2, .ref (bb 0)), (3, .ref o), (4, .int (nI (3 + 4 * k0)))]) (kk : ∀ (H : Heap) (locs : List Loc) (ls : Array Slot), lwS s (dC, dI) cs c3 a bb o (k0 + 1) H locs → lv_has ls 7 [(0, .ref b), (1, .ref (a 0)), (2, .ref (bb 0)), (3, .ref o), (4, .int (nI (3 + 4 * k0)))] → W p l e room_1 s m #[Value.ref b] below meth c H locs (50 + k0 + 1) (2000 + 6 * k0 + 6) Q (F0 m 1030 ls [])) : W p l e room_1 s m #[Value.ref b] below meth c H locs (50 + k0) (2000 + 6 * k0) Q (F0 m 601 ls []) := by
  obtain ⟨hlt, hx, hb, hml, hown, hts, hX, hbl, hK, hT, hN, hL⟩ := C0
  obtain ⟨n, f, g, h, z, r, hP, hD, hS⟩ := S0
  have hA : ∀ q, s.heap.size ≤ q → newA s q := fun _ q => q
  have hbA : ¬ newA s b := fun q => absurd hbl (Nat.not_lt.mpr q)
  have hKc : va_K (dC, dI) vwCl (tyl cs) s := hK.sub [0, 1] rfl
  refine lv_aload_n hx hb dL_law_601 rfl (lv_at hl 1 rfl) ?_
  refine lv_aload_n hx hb dL_law_602 rfl (lv_at hl 0 rfl) ?_
  refine lv_iload hx hb dL_law_603 (lv_at hl 4 rfl) ?_
  refine lv_iconst (v := nI 1) hx hb dL_law_605 (by decide) ?_
  refine lv_iadd hx hb dL_law_606 ?_
  refine tp_eq (nI_add (3 + 4 * k0) 1) ?_
  refine la_sld hx hb hX hbl hbA hS (j := 3 + 4 * k0 + 1) (by omega) hL dL_law_607 ?_
  refine lv_aload_n hx hb dL_law_608 rfl (lv_at hl 3 rfl) ?_
  obtain ⟨n', f', g', h', z', k, r9, hMx, ⟨rm, hrc, hrs, hrf, hrl, hMm⟩, hk0, hk4, hz, hR⟩ := op_right l hlt dC dI cs c3 a bb o r (by omega) (xs (3 + 4 * k0 + 1)) z
  refine wr_callg (ws := lwWd cs c3 a bb o z n f g h) (ws' := lwWd cs c3 a bb o z' n' f' g h) (ov := some (.int (nI k))) (rest := []) (vx_runSW (As := [.ref (a 0), .int (xs (3 + 4 * k0 + 1)), .ref o]) (rest := []) ⟨hx, hb, hml, hown, hts⟩ (hMx H.size) (vx_cwSW 3 hts gL_law_L_right rfl rfl rfl (by decide +kernel) ⟨Nat.le_of_ble_eq_true rfl, Nat.le_of_ble_eq_true rfl⟩) (hp_preS hP hK hD hT hN hS) rfl rfl hl.1 rfl (lv_room (Nat.le_of_ble_eq_true rfl)) dL_law_609 ⟨by show 50 + k0 + 1 ≤ 601024; omega, by show 2000 + 6 * k0 + 6 ≤ 7293000; omega⟩) hS hD hA rfl (fun H locs hP hD hS => ?_)
  refine W.eq (g2 := F0 m 612 ls (.int (nI k) :: [])) rfl ?_
  refine lv_istore (lv' := [(5, .int (nI k)), (0, .ref b), (1, .ref (a 0)), (2, .ref (bb 0)), (3, .ref o), (4, .int (nI (3 + 4 * k0)))]) hx hb dL_law_612 hl (by decide) rfl (fun ls hl => ?_)
  refine lv_aload_n hx hb dL_law_614 rfl (lv_at hl 3 rfl) ?_
  refine lv_aload_n hx hb dL_law_615 rfl (lv_at hl 1 rfl) ?_
  refine lv_iload hx hb dL_law_616 (lv_at hl 5 rfl) ?_
  refine lv_iconst (v := nI 1) hx hb dL_law_618 (by decide) ?_
  refine lv_iadd hx hb dL_law_619 ?_
  refine tp_eq (nI_add (3 + 4 * k0) 1) ?_
  refine la_sld hx hb hX hbl hbA hS (j := 3 + 4 * k0 + 1) (by omega) hL dL_law_620 ?_
  rw [lw_split] at hP hD
  have hPm : va_P (dC, dI) vwCl (wM cs bb g h) H := blkP (w0 := wX cs a n' f' ++ [(o, .inl (c3, 1, .inr (.inl z')))]) (wr := []) hP
  have hDm : va_D (newA s) (wM cs bb g h) := blkD (w0 := wX cs a n' f' ++ [(o, .inl (c3, 1, .inr (.inl z')))]) (wr := []) hD
  refine blk_call (w0 := wX cs a n' f' ++ [(o, .inl (c3, 1, .inr (.inl z')))]) (wc := wM cs bb g h) (wr := []) (w1 := wM cs bb g' h') (ov := some (.int r9)) (rest := []) (va_runV (As := [.int (xs (3 + 4 * k0 + 1))]) (rest := []) ⟨hx, hb, hml, hown, hts⟩ (hMm H.size) (cwV 1 hts gL_law_X4_right rfl hrc hrs (by decide +kernel) ⟨by show rm.frames + 1 ≤ 11; omega, by show _ + rm.locals ≤ 394; omega⟩) (wr_preV (q := (RX4, TX4, 29)) hPm hKc hDm 0 rfl rfl) rfl rfl hl.1 rfl (lv_room (Nat.le_of_ble_eq_true rfl)) dL_law_621 ⟨by show 50 + k0 + 1 + 0 ≤ 601024; omega, by show 2000 + 6 * k0 + 6 + 0 ≤ 7293000; omega⟩) hS hP hD hA rfl (fun H locs hP hD hS => ?_)
  refine W.eq (g2 := F0 m 624 ls (.int r9 :: [])) rfl ?_
  refine lv_istore (lv' := [(6, .int r9), (5, .int (nI k)), (0, .ref b), (1, .ref (a 0)), (2, .ref (bb 0)), (3, .ref o), (4, .int (nI (3 + 4 * k0)))]) hx hb dL_law_624 hl (by decide) rfl (fun ls hl => ?_)
  refine lv_aload_n hx hb dL_law_626 rfl (lv_at hl 4 rfl) ?_
  have hPm : va_P (dC, dI) vwCl (wM cs bb g' h') H := blkP (w0 := wX cs a n' f' ++ [(o, .inl (c3, 1, .inr (.inl z')))]) (wr := []) hP
  refine W.callR (W.runV (As := []) (rest := []) ⟨hx, hb, hml, hown, hts⟩ (c_X4_thrown l dC dI cs bb g' h' (RA_m hR.1.1)) (cwV 0 hts gL_law_X4_thrown rfl rfl rfl (by decide +kernel) ⟨Nat.le_of_ble_eq_true rfl, Nat.le_of_ble_eq_true rfl⟩) (rd_preV (q := (RX4, TX4, 29)) hPm hKc 0 rfl rfl) rfl rfl hl.1 rfl (lv_room (Nat.le_of_ble_eq_true rfl)) dL_law_627 ⟨by show 50 + k0 + 1 + 0 ≤ 601024; omega, by show 2000 + 6 * k0 + 6 + 0 ≤ 7293000; omega⟩) ?_
  refine W.eq (g2 := F0 m 630 ls (.int (nI (g' 0)) :: [])) rfl ?_
  refine lv_iload hx hb dL_law_630 (lv_at hl 1 rfl) ?_
  refine lv_icmp_eq (tgt := 637) hx hb dL_law_632 (by decide) (fun _ => ?_) (fun q => absurd (by rw [hk0]) q)
  refine lv_iload hx hb dL_law_637 (lv_at hl 1 rfl) ?_
  refine lv_if_ne (tgt := 654) hx hb dL_law_639 (by decide) (fun _ => lv_goto (tgt := 1030) hx hb dL_law_654 (by decide) (kk H locs ls ⟨n', f', g', h', z', hR, by rw [lw_split]; exact hP, by rw [lw_split]; exact hD, hS⟩ (lv_sub hl [2, 3, 4, 5, 6] rfl))) (fun q => ?_)
  have hkz : k = 0 := (nI_z (by omega)).mp q
  refine lv_aload_n hx hb dL_law_642 rfl (lv_at hl 5 rfl) ?_
  refine lv_iconst (v := nI 0) hx hb dL_law_643 (by decide) ?_
  refine la_lald hx hb hK hP 19 2 rfl rfl dL_law_644 ?_
  refine lv_iload hx hb dL_law_645 (lv_at hl 0 rfl) ?_
  refine lv_i2l hx hb dL_law_647 rfl ?_
  refine W.lcmp hx hb dL_law_648 ?_
  exact lv_if_eq (tgt := 654) hx hb dL_law_649 (by decide) (fun _ => lv_goto (tgt := 1030) hx hb dL_law_654 (by decide) (kk H locs ls ⟨n', f', g', h', z', hR, by rw [lw_split]; exact hP, by rw [lw_split]; exact hD, hS⟩ (lv_sub hl [2, 3, 4, 5, 6] rfl))) (fun q => absurd ((lg_cmp_eq _ _).mpr (hz hkz)) q)
set_option maxHeartbeats 4000000 in
set_option maxRecDepth 100000 in
theorem cs_wrong {p : Program} {l : Launch} {e : Env} {s : State} {m : MethodId} {below : List Frame} {meth : Method} {c : Code} {H : Heap} {locs : List Loc} {Q : State → Prop} {ls : Array Slot} {dC : Nat → ClassId} {dI : Nat → Nat → Nat} {cs : ClassId × ClassId} {c3 : ClassId} {a bb : Nat → Nat} {o b L : Nat} {xs : Nat → Int32} (C0 : lwX l p s m meth c (dC, dI) cs c3 b L xs) {k0 : Nat} (hi : 3 + 4 * k0 + 4 ≤ L) (S0 : lwS s (dC, dI) cs c3 a bb o k0 H locs) (hl : lv_has ls 7 [(0, .ref b), (1, .ref (a 0)), (2, .ref (bb 0)), (3, .ref o), (4, .int (nI (3 + 4 * k0)))]) (kk : ∀ (H : Heap) (locs : List Loc) (ls : Array Slot), lwS s (dC, dI) cs c3 a bb o (k0 + 1) H locs → lv_has ls 7 [(0, .ref b), (1, .ref (a 0)), (2, .ref (bb 0)), (3, .ref o), (4, .int (nI (3 + 4 * k0)))] → W p l e room_1 s m #[Value.ref b] below meth c H locs (50 + k0 + 1) (2000 + 6 * k0 + 6) Q (F0 m 1030 ls [])) : W p l e room_1 s m #[Value.ref b] below meth c H locs (50 + k0) (2000 + 6 * k0) Q (F0 m 657 ls []) := by
  obtain ⟨hlt, hx, hb, hml, hown, hts, hX, hbl, hK, hT, hN, hL⟩ := C0
  obtain ⟨n, f, g, h, z, r, hP, hD, hS⟩ := S0
  have hA : ∀ q, s.heap.size ≤ q → newA s q := fun _ q => q
  have hbA : ¬ newA s b := fun q => absurd hbl (Nat.not_lt.mpr q)
  have hKc : va_K (dC, dI) vwCl (tyl cs) s := hK.sub [0, 1] rfl
  refine lv_aload_n hx hb dL_law_657 rfl (lv_at hl 1 rfl) ?_
  refine lv_aload_n hx hb dL_law_658 rfl (lv_at hl 0 rfl) ?_
  refine lv_iload hx hb dL_law_659 (lv_at hl 4 rfl) ?_
  refine lv_iconst (v := nI 1) hx hb dL_law_661 (by decide) ?_
  refine lv_iadd hx hb dL_law_662 ?_
  refine tp_eq (nI_add (3 + 4 * k0) 1) ?_
  refine la_sld hx hb hX hbl hbA hS (j := 3 + 4 * k0 + 1) (by omega) hL dL_law_663 ?_
  refine lv_aload_n hx hb dL_law_664 rfl (lv_at hl 3 rfl) ?_
  obtain ⟨n', f', g', h', z', k, r9, hMx, ⟨rm, hrc, hrs, hrf, hrl, hMm⟩, hk0, hk4, hz, hR⟩ := op_wrong l hlt dC dI cs c3 a bb o r (by omega) (xs (3 + 4 * k0 + 1)) z
  refine wr_callg (ws := lwWd cs c3 a bb o z n f g h) (ws' := lwWd cs c3 a bb o z' n' f' g h) (ov := some (.int (nI k))) (rest := []) (vx_runSW (As := [.ref (a 0), .int (xs (3 + 4 * k0 + 1)), .ref o]) (rest := []) ⟨hx, hb, hml, hown, hts⟩ (hMx H.size) (vx_cwSW 3 hts gL_law_L_wrong rfl rfl rfl (by decide +kernel) ⟨Nat.le_of_ble_eq_true rfl, Nat.le_of_ble_eq_true rfl⟩) (hp_preS hP hK hD hT hN hS) rfl rfl hl.1 rfl (lv_room (Nat.le_of_ble_eq_true rfl)) dL_law_665 ⟨by show 50 + k0 + 1 ≤ 601024; omega, by show 2000 + 6 * k0 + 6 ≤ 7293000; omega⟩) hS hD hA rfl (fun H locs hP hD hS => ?_)
  refine W.eq (g2 := F0 m 668 ls (.int (nI k) :: [])) rfl ?_
  refine lv_istore (lv' := [(5, .int (nI k)), (0, .ref b), (1, .ref (a 0)), (2, .ref (bb 0)), (3, .ref o), (4, .int (nI (3 + 4 * k0)))]) hx hb dL_law_668 hl (by decide) rfl (fun ls hl => ?_)
  refine lv_aload_n hx hb dL_law_670 rfl (lv_at hl 3 rfl) ?_
  refine lv_aload_n hx hb dL_law_671 rfl (lv_at hl 1 rfl) ?_
  refine lv_iload hx hb dL_law_672 (lv_at hl 5 rfl) ?_
  refine lv_iconst (v := nI 1) hx hb dL_law_674 (by decide) ?_
  refine lv_iadd hx hb dL_law_675 ?_
  refine tp_eq (nI_add (3 + 4 * k0) 1) ?_
  refine la_sld hx hb hX hbl hbA hS (j := 3 + 4 * k0 + 1) (by omega) hL dL_law_676 ?_
  rw [lw_split] at hP hD
  have hPm : va_P (dC, dI) vwCl (wM cs bb g h) H := blkP (w0 := wX cs a n' f' ++ [(o, .inl (c3, 1, .inr (.inl z')))]) (wr := []) hP
  have hDm : va_D (newA s) (wM cs bb g h) := blkD (w0 := wX cs a n' f' ++ [(o, .inl (c3, 1, .inr (.inl z')))]) (wr := []) hD
  refine blk_call (w0 := wX cs a n' f' ++ [(o, .inl (c3, 1, .inr (.inl z')))]) (wc := wM cs bb g h) (wr := []) (w1 := wM cs bb g' h') (ov := some (.int r9)) (rest := []) (va_runV (As := [.int (xs (3 + 4 * k0 + 1))]) (rest := []) ⟨hx, hb, hml, hown, hts⟩ (hMm H.size) (cwV 1 hts gL_law_X4_wrong rfl hrc hrs (by decide +kernel) ⟨by show rm.frames + 1 ≤ 11; omega, by show _ + rm.locals ≤ 394; omega⟩) (wr_preV (q := (RX4, TX4, 29)) hPm hKc hDm 0 rfl rfl) rfl rfl hl.1 rfl (lv_room (Nat.le_of_ble_eq_true rfl)) dL_law_677 ⟨by show 50 + k0 + 1 + 0 ≤ 601024; omega, by show 2000 + 6 * k0 + 6 + 0 ≤ 7293000; omega⟩) hS hP hD hA rfl (fun H locs hP hD hS => ?_)
  refine W.eq (g2 := F0 m 680 ls (.int r9 :: [])) rfl ?_
  refine lv_istore (lv' := [(6, .int r9), (5, .int (nI k)), (0, .ref b), (1, .ref (a 0)), (2, .ref (bb 0)), (3, .ref o), (4, .int (nI (3 + 4 * k0)))]) hx hb dL_law_680 hl (by decide) rfl (fun ls hl => ?_)
  refine lv_aload_n hx hb dL_law_682 rfl (lv_at hl 4 rfl) ?_
  have hPm : va_P (dC, dI) vwCl (wM cs bb g' h') H := blkP (w0 := wX cs a n' f' ++ [(o, .inl (c3, 1, .inr (.inl z')))]) (wr := []) hP
  refine W.callR (W.runV (As := []) (rest := []) ⟨hx, hb, hml, hown, hts⟩ (c_X4_thrown l dC dI cs bb g' h' (RA_m hR.1.1)) (cwV 0 hts gL_law_X4_thrown rfl rfl rfl (by decide +kernel) ⟨Nat.le_of_ble_eq_true rfl, Nat.le_of_ble_eq_true rfl⟩) (rd_preV (q := (RX4, TX4, 29)) hPm hKc 0 rfl rfl) rfl rfl hl.1 rfl (lv_room (Nat.le_of_ble_eq_true rfl)) dL_law_683 ⟨by show 50 + k0 + 1 + 0 ≤ 601024; omega, by show 2000 + 6 * k0 + 6 + 0 ≤ 7293000; omega⟩) ?_
  refine W.eq (g2 := F0 m 686 ls (.int (nI (g' 0)) :: [])) rfl ?_
  refine lv_iload hx hb dL_law_686 (lv_at hl 1 rfl) ?_
  refine lv_icmp_eq (tgt := 693) hx hb dL_law_688 (by decide) (fun _ => ?_) (fun q => absurd (by rw [hk0]) q)
  refine lv_iload hx hb dL_law_693 (lv_at hl 1 rfl) ?_
  refine lv_if_ne (tgt := 710) hx hb dL_law_695 (by decide) (fun _ => lv_goto (tgt := 1030) hx hb dL_law_710 (by decide) (kk H locs ls ⟨n', f', g', h', z', hR, by rw [lw_split]; exact hP, by rw [lw_split]; exact hD, hS⟩ (lv_sub hl [2, 3, 4, 5, 6] rfl))) (fun q => ?_)
  have hkz : k = 0 := (nI_z (by omega)).mp q
  refine lv_aload_n hx hb dL_law_698 rfl (lv_at hl 5 rfl) ?_
  refine lv_iconst (v := nI 0) hx hb dL_law_699 (by decide) ?_
  refine la_lald hx hb hK hP 19 2 rfl rfl dL_law_700 ?_
  refine lv_iload hx hb dL_law_701 (lv_at hl 0 rfl) ?_
  refine lv_i2l hx hb dL_law_703 rfl ?_
  refine W.lcmp hx hb dL_law_704 ?_
  exact lv_if_eq (tgt := 710) hx hb dL_law_705 (by decide) (fun _ => lv_goto (tgt := 1030) hx hb dL_law_710 (by decide) (kk H locs ls ⟨n', f', g', h', z', hR, by rw [lw_split]; exact hP, by rw [lw_split]; exact hD, hS⟩ (lv_sub hl [2, 3, 4, 5, 6] rfl))) (fun q => absurd ((lg_cmp_eq _ _).mpr (hz hkz)) q)
set_option maxHeartbeats 4000000 in
set_option maxRecDepth 100000 in
theorem cs_name {p : Program} {l : Launch} {e : Env} {s : State} {m : MethodId} {below : List Frame} {meth : Method} {c : Code} {H : Heap} {locs : List Loc} {Q : State → Prop} {ls : Array Slot} {dC : Nat → ClassId} {dI : Nat → Nat → Nat} {cs : ClassId × ClassId} {c3 : ClassId} {a bb : Nat → Nat} {o b L : Nat} {xs : Nat → Int32} (C0 : lwX l p s m meth c (dC, dI) cs c3 b L xs) {k0 : Nat} (hi : 3 + 4 * k0 + 4 ≤ L) (S0 : lwS s (dC, dI) cs c3 a bb o k0 H locs) (hl : lv_has ls 7 [(0, .ref b), (1, .ref (a 0)), (2, .ref (bb 0)), (3, .ref o), (4, .int (nI (3 + 4 * k0)))]) (kk : ∀ (H : Heap) (locs : List Loc) (ls : Array Slot), lwS s (dC, dI) cs c3 a bb o (k0 + 1) H locs → lv_has ls 7 [(0, .ref b), (1, .ref (a 0)), (2, .ref (bb 0)), (3, .ref o), (4, .int (nI (3 + 4 * k0)))] → W p l e room_1 s m #[Value.ref b] below meth c H locs (50 + k0 + 1) (2000 + 6 * k0 + 6) Q (F0 m 1030 ls [])) : W p l e room_1 s m #[Value.ref b] below meth c H locs (50 + k0) (2000 + 6 * k0) Q (F0 m 713 ls []) := by
  obtain ⟨hlt, hx, hb, hml, hown, hts, hX, hbl, hK, hT, hN, hL⟩ := C0
  obtain ⟨n, f, g, h, z, r, hP, hD, hS⟩ := S0
  have hA : ∀ q, s.heap.size ≤ q → newA s q := fun _ q => q
  have hbA : ¬ newA s b := fun q => absurd hbl (Nat.not_lt.mpr q)
  have hKc : va_K (dC, dI) vwCl (tyl cs) s := hK.sub [0, 1] rfl
  refine lv_aload_n hx hb dL_law_713 rfl (lv_at hl 1 rfl) ?_
  refine lv_aload_n hx hb dL_law_714 rfl (lv_at hl 0 rfl) ?_
  refine lv_iload hx hb dL_law_715 (lv_at hl 4 rfl) ?_
  refine lv_iconst (v := nI 1) hx hb dL_law_717 (by decide) ?_
  refine lv_iadd hx hb dL_law_718 ?_
  refine tp_eq (nI_add (3 + 4 * k0) 1) ?_
  refine la_sld hx hb hX hbl hbA hS (j := 3 + 4 * k0 + 1) (by omega) hL dL_law_719 ?_
  refine lv_aload_n hx hb dL_law_720 rfl (lv_at hl 3 rfl) ?_
  obtain ⟨n', f', g', h', z', k, r9, hMx, ⟨rm, hrc, hrs, hrf, hrl, hMm⟩, hk0, hk4, hz, hR⟩ := op_name l hlt dC dI cs c3 a bb o r (by omega) (xs (3 + 4 * k0 + 1)) z
  refine wr_callg (ws := lwWd cs c3 a bb o z n f g h) (ws' := lwWd cs c3 a bb o z' n' f' g h) (ov := some (.int (nI k))) (rest := []) (vx_runSW (As := [.ref (a 0), .int (xs (3 + 4 * k0 + 1)), .ref o]) (rest := []) ⟨hx, hb, hml, hown, hts⟩ (hMx H.size) (vx_cwSW 3 hts gL_law_L_name rfl rfl rfl (by decide +kernel) ⟨Nat.le_of_ble_eq_true rfl, Nat.le_of_ble_eq_true rfl⟩) (hp_preS hP hK hD hT hN hS) rfl rfl hl.1 rfl (lv_room (Nat.le_of_ble_eq_true rfl)) dL_law_721 ⟨by show 50 + k0 + 1 ≤ 601024; omega, by show 2000 + 6 * k0 + 6 ≤ 7293000; omega⟩) hS hD hA rfl (fun H locs hP hD hS => ?_)
  refine W.eq (g2 := F0 m 724 ls (.int (nI k) :: [])) rfl ?_
  refine lv_istore (lv' := [(5, .int (nI k)), (0, .ref b), (1, .ref (a 0)), (2, .ref (bb 0)), (3, .ref o), (4, .int (nI (3 + 4 * k0)))]) hx hb dL_law_724 hl (by decide) rfl (fun ls hl => ?_)
  refine lv_aload_n hx hb dL_law_726 rfl (lv_at hl 3 rfl) ?_
  refine lv_aload_n hx hb dL_law_727 rfl (lv_at hl 1 rfl) ?_
  refine lv_iload hx hb dL_law_728 (lv_at hl 5 rfl) ?_
  refine lv_iconst (v := nI 1) hx hb dL_law_730 (by decide) ?_
  refine lv_iadd hx hb dL_law_731 ?_
  refine tp_eq (nI_add (3 + 4 * k0) 1) ?_
  refine la_sld hx hb hX hbl hbA hS (j := 3 + 4 * k0 + 1) (by omega) hL dL_law_732 ?_
  rw [lw_split] at hP hD
  have hPm : va_P (dC, dI) vwCl (wM cs bb g h) H := blkP (w0 := wX cs a n' f' ++ [(o, .inl (c3, 1, .inr (.inl z')))]) (wr := []) hP
  have hDm : va_D (newA s) (wM cs bb g h) := blkD (w0 := wX cs a n' f' ++ [(o, .inl (c3, 1, .inr (.inl z')))]) (wr := []) hD
  refine blk_call (w0 := wX cs a n' f' ++ [(o, .inl (c3, 1, .inr (.inl z')))]) (wc := wM cs bb g h) (wr := []) (w1 := wM cs bb g' h') (ov := some (.int r9)) (rest := []) (va_runV (As := [.int (xs (3 + 4 * k0 + 1))]) (rest := []) ⟨hx, hb, hml, hown, hts⟩ (hMm H.size) (cwV 1 hts gL_law_X4_name rfl hrc hrs (by decide +kernel) ⟨by show rm.frames + 1 ≤ 11; omega, by show _ + rm.locals ≤ 394; omega⟩) (wr_preV (q := (RX4, TX4, 29)) hPm hKc hDm 0 rfl rfl) rfl rfl hl.1 rfl (lv_room (Nat.le_of_ble_eq_true rfl)) dL_law_733 ⟨by show 50 + k0 + 1 + 0 ≤ 601024; omega, by show 2000 + 6 * k0 + 6 + 0 ≤ 7293000; omega⟩) hS hP hD hA rfl (fun H locs hP hD hS => ?_)
  refine W.eq (g2 := F0 m 736 ls (.int r9 :: [])) rfl ?_
  refine lv_istore (lv' := [(6, .int r9), (5, .int (nI k)), (0, .ref b), (1, .ref (a 0)), (2, .ref (bb 0)), (3, .ref o), (4, .int (nI (3 + 4 * k0)))]) hx hb dL_law_736 hl (by decide) rfl (fun ls hl => ?_)
  refine lv_aload_n hx hb dL_law_738 rfl (lv_at hl 4 rfl) ?_
  have hPm : va_P (dC, dI) vwCl (wM cs bb g' h') H := blkP (w0 := wX cs a n' f' ++ [(o, .inl (c3, 1, .inr (.inl z')))]) (wr := []) hP
  refine W.callR (W.runV (As := []) (rest := []) ⟨hx, hb, hml, hown, hts⟩ (c_X4_thrown l dC dI cs bb g' h' (RA_m hR.1.1)) (cwV 0 hts gL_law_X4_thrown rfl rfl rfl (by decide +kernel) ⟨Nat.le_of_ble_eq_true rfl, Nat.le_of_ble_eq_true rfl⟩) (rd_preV (q := (RX4, TX4, 29)) hPm hKc 0 rfl rfl) rfl rfl hl.1 rfl (lv_room (Nat.le_of_ble_eq_true rfl)) dL_law_739 ⟨by show 50 + k0 + 1 + 0 ≤ 601024; omega, by show 2000 + 6 * k0 + 6 + 0 ≤ 7293000; omega⟩) ?_
  refine W.eq (g2 := F0 m 742 ls (.int (nI (g' 0)) :: [])) rfl ?_
  refine lv_iload hx hb dL_law_742 (lv_at hl 1 rfl) ?_
  refine lv_icmp_eq (tgt := 749) hx hb dL_law_744 (by decide) (fun _ => ?_) (fun q => absurd (by rw [hk0]) q)
  refine lv_iload hx hb dL_law_749 (lv_at hl 1 rfl) ?_
  refine lv_if_ne (tgt := 766) hx hb dL_law_751 (by decide) (fun _ => lv_goto (tgt := 1030) hx hb dL_law_766 (by decide) (kk H locs ls ⟨n', f', g', h', z', hR, by rw [lw_split]; exact hP, by rw [lw_split]; exact hD, hS⟩ (lv_sub hl [2, 3, 4, 5, 6] rfl))) (fun q => ?_)
  have hkz : k = 0 := (nI_z (by omega)).mp q
  refine lv_aload_n hx hb dL_law_754 rfl (lv_at hl 5 rfl) ?_
  refine lv_iconst (v := nI 0) hx hb dL_law_755 (by decide) ?_
  refine la_lald hx hb hK hP 19 2 rfl rfl dL_law_756 ?_
  refine lv_iload hx hb dL_law_757 (lv_at hl 0 rfl) ?_
  refine lv_i2l hx hb dL_law_759 rfl ?_
  refine W.lcmp hx hb dL_law_760 ?_
  exact lv_if_eq (tgt := 766) hx hb dL_law_761 (by decide) (fun _ => lv_goto (tgt := 1030) hx hb dL_law_766 (by decide) (kk H locs ls ⟨n', f', g', h', z', hR, by rw [lw_split]; exact hP, by rw [lw_split]; exact hD, hS⟩ (lv_sub hl [2, 3, 4, 5, 6] rfl))) (fun q => absurd ((lg_cmp_eq _ _).mpr (hz hkz)) q)
set_option maxHeartbeats 4000000 in
set_option maxRecDepth 100000 in
theorem cs_sure {p : Program} {l : Launch} {e : Env} {s : State} {m : MethodId} {below : List Frame} {meth : Method} {c : Code} {H : Heap} {locs : List Loc} {Q : State → Prop} {ls : Array Slot} {dC : Nat → ClassId} {dI : Nat → Nat → Nat} {cs : ClassId × ClassId} {c3 : ClassId} {a bb : Nat → Nat} {o b L : Nat} {xs : Nat → Int32} (C0 : lwX l p s m meth c (dC, dI) cs c3 b L xs) {k0 : Nat} (hi : 3 + 4 * k0 + 4 ≤ L) (S0 : lwS s (dC, dI) cs c3 a bb o k0 H locs) (hl : lv_has ls 7 [(0, .ref b), (1, .ref (a 0)), (2, .ref (bb 0)), (3, .ref o), (4, .int (nI (3 + 4 * k0)))]) (kk : ∀ (H : Heap) (locs : List Loc) (ls : Array Slot), lwS s (dC, dI) cs c3 a bb o (k0 + 1) H locs → lv_has ls 7 [(0, .ref b), (1, .ref (a 0)), (2, .ref (bb 0)), (3, .ref o), (4, .int (nI (3 + 4 * k0)))] → W p l e room_1 s m #[Value.ref b] below meth c H locs (50 + k0 + 1) (2000 + 6 * k0 + 6) Q (F0 m 1030 ls [])) : W p l e room_1 s m #[Value.ref b] below meth c H locs (50 + k0) (2000 + 6 * k0) Q (F0 m 769 ls []) := by
  obtain ⟨hlt, hx, hb, hml, hown, hts, hX, hbl, hK, hT, hN, hL⟩ := C0
  obtain ⟨n, f, g, h, z, r, hP, hD, hS⟩ := S0
  have hA : ∀ q, s.heap.size ≤ q → newA s q := fun _ q => q
  have hbA : ¬ newA s b := fun q => absurd hbl (Nat.not_lt.mpr q)
  have hKc : va_K (dC, dI) vwCl (tyl cs) s := hK.sub [0, 1] rfl
  refine lv_aload_n hx hb dL_law_769 rfl (lv_at hl 1 rfl) ?_
  refine lv_aload_n hx hb dL_law_770 rfl (lv_at hl 0 rfl) ?_
  refine lv_iload hx hb dL_law_771 (lv_at hl 4 rfl) ?_
  refine lv_iconst (v := nI 1) hx hb dL_law_773 (by decide) ?_
  refine lv_iadd hx hb dL_law_774 ?_
  refine tp_eq (nI_add (3 + 4 * k0) 1) ?_
  refine la_sld hx hb hX hbl hbA hS (j := 3 + 4 * k0 + 1) (by omega) hL dL_law_775 ?_
  refine lv_aload_n hx hb dL_law_776 rfl (lv_at hl 3 rfl) ?_
  obtain ⟨n', f', g', h', z', k, r9, hMx, ⟨rm, hrc, hrs, hrf, hrl, hMm⟩, hk0, hk4, hz, hR⟩ := op_sure l hlt dC dI cs c3 a bb o r (by omega) (xs (3 + 4 * k0 + 1)) z
  refine wr_callg (ws := lwWd cs c3 a bb o z n f g h) (ws' := lwWd cs c3 a bb o z' n' f' g h) (ov := some (.int (nI k))) (rest := []) (vx_runSW (As := [.ref (a 0), .int (xs (3 + 4 * k0 + 1)), .ref o]) (rest := []) ⟨hx, hb, hml, hown, hts⟩ (hMx H.size) (vx_cwSW 3 hts gL_law_L_sure rfl rfl rfl (by decide +kernel) ⟨Nat.le_of_ble_eq_true rfl, Nat.le_of_ble_eq_true rfl⟩) (hp_preS hP hK hD hT hN hS) rfl rfl hl.1 rfl (lv_room (Nat.le_of_ble_eq_true rfl)) dL_law_777 ⟨by show 50 + k0 + 1 ≤ 601024; omega, by show 2000 + 6 * k0 + 6 ≤ 7293000; omega⟩) hS hD hA rfl (fun H locs hP hD hS => ?_)
  refine W.eq (g2 := F0 m 780 ls (.int (nI k) :: [])) rfl ?_
  refine lv_istore (lv' := [(5, .int (nI k)), (0, .ref b), (1, .ref (a 0)), (2, .ref (bb 0)), (3, .ref o), (4, .int (nI (3 + 4 * k0)))]) hx hb dL_law_780 hl (by decide) rfl (fun ls hl => ?_)
  refine lv_aload_n hx hb dL_law_782 rfl (lv_at hl 3 rfl) ?_
  refine lv_aload_n hx hb dL_law_783 rfl (lv_at hl 1 rfl) ?_
  refine lv_iload hx hb dL_law_784 (lv_at hl 5 rfl) ?_
  refine lv_iconst (v := nI 1) hx hb dL_law_786 (by decide) ?_
  refine lv_iadd hx hb dL_law_787 ?_
  refine tp_eq (nI_add (3 + 4 * k0) 1) ?_
  refine la_sld hx hb hX hbl hbA hS (j := 3 + 4 * k0 + 1) (by omega) hL dL_law_788 ?_
  rw [lw_split] at hP hD
  have hPm : va_P (dC, dI) vwCl (wM cs bb g h) H := blkP (w0 := wX cs a n' f' ++ [(o, .inl (c3, 1, .inr (.inl z')))]) (wr := []) hP
  have hDm : va_D (newA s) (wM cs bb g h) := blkD (w0 := wX cs a n' f' ++ [(o, .inl (c3, 1, .inr (.inl z')))]) (wr := []) hD
  refine blk_call (w0 := wX cs a n' f' ++ [(o, .inl (c3, 1, .inr (.inl z')))]) (wc := wM cs bb g h) (wr := []) (w1 := wM cs bb g' h') (ov := some (.int r9)) (rest := []) (va_runV (As := [.int (xs (3 + 4 * k0 + 1))]) (rest := []) ⟨hx, hb, hml, hown, hts⟩ (hMm H.size) (cwV 1 hts gL_law_X4_sure rfl hrc hrs (by decide +kernel) ⟨by show rm.frames + 1 ≤ 11; omega, by show _ + rm.locals ≤ 394; omega⟩) (wr_preV (q := (RX4, TX4, 29)) hPm hKc hDm 0 rfl rfl) rfl rfl hl.1 rfl (lv_room (Nat.le_of_ble_eq_true rfl)) dL_law_789 ⟨by show 50 + k0 + 1 + 0 ≤ 601024; omega, by show 2000 + 6 * k0 + 6 + 0 ≤ 7293000; omega⟩) hS hP hD hA rfl (fun H locs hP hD hS => ?_)
  refine W.eq (g2 := F0 m 792 ls (.int r9 :: [])) rfl ?_
  refine lv_istore (lv' := [(6, .int r9), (5, .int (nI k)), (0, .ref b), (1, .ref (a 0)), (2, .ref (bb 0)), (3, .ref o), (4, .int (nI (3 + 4 * k0)))]) hx hb dL_law_792 hl (by decide) rfl (fun ls hl => ?_)
  refine lv_aload_n hx hb dL_law_794 rfl (lv_at hl 4 rfl) ?_
  have hPm : va_P (dC, dI) vwCl (wM cs bb g' h') H := blkP (w0 := wX cs a n' f' ++ [(o, .inl (c3, 1, .inr (.inl z')))]) (wr := []) hP
  refine W.callR (W.runV (As := []) (rest := []) ⟨hx, hb, hml, hown, hts⟩ (c_X4_thrown l dC dI cs bb g' h' (RA_m hR.1.1)) (cwV 0 hts gL_law_X4_thrown rfl rfl rfl (by decide +kernel) ⟨Nat.le_of_ble_eq_true rfl, Nat.le_of_ble_eq_true rfl⟩) (rd_preV (q := (RX4, TX4, 29)) hPm hKc 0 rfl rfl) rfl rfl hl.1 rfl (lv_room (Nat.le_of_ble_eq_true rfl)) dL_law_795 ⟨by show 50 + k0 + 1 + 0 ≤ 601024; omega, by show 2000 + 6 * k0 + 6 + 0 ≤ 7293000; omega⟩) ?_
  refine W.eq (g2 := F0 m 798 ls (.int (nI (g' 0)) :: [])) rfl ?_
  refine lv_iload hx hb dL_law_798 (lv_at hl 1 rfl) ?_
  refine lv_icmp_eq (tgt := 805) hx hb dL_law_800 (by decide) (fun _ => ?_) (fun q => absurd (by rw [hk0]) q)
  refine lv_iload hx hb dL_law_805 (lv_at hl 1 rfl) ?_
  refine lv_if_ne (tgt := 822) hx hb dL_law_807 (by decide) (fun _ => lv_goto (tgt := 1030) hx hb dL_law_822 (by decide) (kk H locs ls ⟨n', f', g', h', z', hR, by rw [lw_split]; exact hP, by rw [lw_split]; exact hD, hS⟩ (lv_sub hl [2, 3, 4, 5, 6] rfl))) (fun q => ?_)
  have hkz : k = 0 := (nI_z (by omega)).mp q
  refine lv_aload_n hx hb dL_law_810 rfl (lv_at hl 5 rfl) ?_
  refine lv_iconst (v := nI 0) hx hb dL_law_811 (by decide) ?_
  refine la_lald hx hb hK hP 19 2 rfl rfl dL_law_812 ?_
  refine lv_iload hx hb dL_law_813 (lv_at hl 0 rfl) ?_
  refine lv_i2l hx hb dL_law_815 rfl ?_
  refine W.lcmp hx hb dL_law_816 ?_
  exact lv_if_eq (tgt := 822) hx hb dL_law_817 (by decide) (fun _ => lv_goto (tgt := 1030) hx hb dL_law_822 (by decide) (kk H locs ls ⟨n', f', g', h', z', hR, by rw [lw_split]; exact hP, by rw [lw_split]; exact hD, hS⟩ (lv_sub hl [2, 3, 4, 5, 6] rfl))) (fun q => absurd ((lg_cmp_eq _ _).mpr (hz hkz)) q)
set_option maxHeartbeats 4000000 in
set_option maxRecDepth 100000 in
theorem cs_shares {p : Program} {l : Launch} {e : Env} {s : State} {m : MethodId} {below : List Frame} {meth : Method} {c : Code} {H : Heap} {locs : List Loc} {Q : State → Prop} {ls : Array Slot} {dC : Nat → ClassId} {dI : Nat → Nat → Nat} {cs : ClassId × ClassId} {c3 : ClassId} {a bb : Nat → Nat} {o b L : Nat} {xs : Nat → Int32} (C0 : lwX l p s m meth c (dC, dI) cs c3 b L xs) {k0 : Nat} (hi : 3 + 4 * k0 + 4 ≤ L) (S0 : lwS s (dC, dI) cs c3 a bb o k0 H locs) (hl : lv_has ls 7 [(0, .ref b), (1, .ref (a 0)), (2, .ref (bb 0)), (3, .ref o), (4, .int (nI (3 + 4 * k0)))]) (kk : ∀ (H : Heap) (locs : List Loc) (ls : Array Slot), lwS s (dC, dI) cs c3 a bb o (k0 + 1) H locs → lv_has ls 7 [(0, .ref b), (1, .ref (a 0)), (2, .ref (bb 0)), (3, .ref o), (4, .int (nI (3 + 4 * k0)))] → W p l e room_1 s m #[Value.ref b] below meth c H locs (50 + k0 + 1) (2000 + 6 * k0 + 6) Q (F0 m 1030 ls [])) : W p l e room_1 s m #[Value.ref b] below meth c H locs (50 + k0) (2000 + 6 * k0) Q (F0 m 825 ls []) := by
  obtain ⟨hlt, hx, hb, hml, hown, hts, hX, hbl, hK, hT, hN, hL⟩ := C0
  obtain ⟨n, f, g, h, z, r, hP, hD, hS⟩ := S0
  have hA : ∀ q, s.heap.size ≤ q → newA s q := fun _ q => q
  have hbA : ¬ newA s b := fun q => absurd hbl (Nat.not_lt.mpr q)
  have hKc : va_K (dC, dI) vwCl (tyl cs) s := hK.sub [0, 1] rfl
  refine lv_aload_n hx hb dL_law_825 rfl (lv_at hl 1 rfl) ?_
  refine lv_aload_n hx hb dL_law_826 rfl (lv_at hl 0 rfl) ?_
  refine lv_iload hx hb dL_law_827 (lv_at hl 4 rfl) ?_
  refine lv_iconst (v := nI 1) hx hb dL_law_829 (by decide) ?_
  refine lv_iadd hx hb dL_law_830 ?_
  refine tp_eq (nI_add (3 + 4 * k0) 1) ?_
  refine la_sld hx hb hX hbl hbA hS (j := 3 + 4 * k0 + 1) (by omega) hL dL_law_831 ?_
  refine lv_aload_n hx hb dL_law_832 rfl (lv_at hl 3 rfl) ?_
  obtain ⟨n', f', g', h', z', k, r9, hMx, ⟨rm, hrc, hrs, hrf, hrl, hMm⟩, hk0, hk4, hz, hR⟩ := op_shares l hlt dC dI cs c3 a bb o r (by omega) (xs (3 + 4 * k0 + 1)) z
  refine wr_callg (ws := lwWd cs c3 a bb o z n f g h) (ws' := lwWd cs c3 a bb o z' n' f' g h) (ov := some (.int (nI k))) (rest := []) (vx_runSW (As := [.ref (a 0), .int (xs (3 + 4 * k0 + 1)), .ref o]) (rest := []) ⟨hx, hb, hml, hown, hts⟩ (hMx H.size) (vx_cwSW 3 hts gL_law_L_shares rfl rfl rfl (by decide +kernel) ⟨Nat.le_of_ble_eq_true rfl, Nat.le_of_ble_eq_true rfl⟩) (hp_preS hP hK hD hT hN hS) rfl rfl hl.1 rfl (lv_room (Nat.le_of_ble_eq_true rfl)) dL_law_833 ⟨by show 50 + k0 + 1 ≤ 601024; omega, by show 2000 + 6 * k0 + 6 ≤ 7293000; omega⟩) hS hD hA rfl (fun H locs hP hD hS => ?_)
  refine W.eq (g2 := F0 m 836 ls (.int (nI k) :: [])) rfl ?_
  refine lv_istore (lv' := [(5, .int (nI k)), (0, .ref b), (1, .ref (a 0)), (2, .ref (bb 0)), (3, .ref o), (4, .int (nI (3 + 4 * k0)))]) hx hb dL_law_836 hl (by decide) rfl (fun ls hl => ?_)
  refine lv_aload_n hx hb dL_law_838 rfl (lv_at hl 3 rfl) ?_
  refine lv_aload_n hx hb dL_law_839 rfl (lv_at hl 1 rfl) ?_
  refine lv_iload hx hb dL_law_840 (lv_at hl 5 rfl) ?_
  refine lv_iconst (v := nI 1) hx hb dL_law_842 (by decide) ?_
  refine lv_iadd hx hb dL_law_843 ?_
  refine tp_eq (nI_add (3 + 4 * k0) 1) ?_
  refine la_sld hx hb hX hbl hbA hS (j := 3 + 4 * k0 + 1) (by omega) hL dL_law_844 ?_
  rw [lw_split] at hP hD
  have hPm : va_P (dC, dI) vwCl (wM cs bb g h) H := blkP (w0 := wX cs a n' f' ++ [(o, .inl (c3, 1, .inr (.inl z')))]) (wr := []) hP
  have hDm : va_D (newA s) (wM cs bb g h) := blkD (w0 := wX cs a n' f' ++ [(o, .inl (c3, 1, .inr (.inl z')))]) (wr := []) hD
  refine blk_call (w0 := wX cs a n' f' ++ [(o, .inl (c3, 1, .inr (.inl z')))]) (wc := wM cs bb g h) (wr := []) (w1 := wM cs bb g' h') (ov := some (.int r9)) (rest := []) (va_runV (As := [.int (xs (3 + 4 * k0 + 1))]) (rest := []) ⟨hx, hb, hml, hown, hts⟩ (hMm H.size) (cwV 1 hts gL_law_X4_shares rfl hrc hrs (by decide +kernel) ⟨by show rm.frames + 1 ≤ 11; omega, by show _ + rm.locals ≤ 394; omega⟩) (wr_preV (q := (RX4, TX4, 29)) hPm hKc hDm 0 rfl rfl) rfl rfl hl.1 rfl (lv_room (Nat.le_of_ble_eq_true rfl)) dL_law_845 ⟨by show 50 + k0 + 1 + 0 ≤ 601024; omega, by show 2000 + 6 * k0 + 6 + 0 ≤ 7293000; omega⟩) hS hP hD hA rfl (fun H locs hP hD hS => ?_)
  refine W.eq (g2 := F0 m 848 ls (.int r9 :: [])) rfl ?_
  refine lv_istore (lv' := [(6, .int r9), (5, .int (nI k)), (0, .ref b), (1, .ref (a 0)), (2, .ref (bb 0)), (3, .ref o), (4, .int (nI (3 + 4 * k0)))]) hx hb dL_law_848 hl (by decide) rfl (fun ls hl => ?_)
  refine lv_aload_n hx hb dL_law_850 rfl (lv_at hl 4 rfl) ?_
  have hPm : va_P (dC, dI) vwCl (wM cs bb g' h') H := blkP (w0 := wX cs a n' f' ++ [(o, .inl (c3, 1, .inr (.inl z')))]) (wr := []) hP
  refine W.callR (W.runV (As := []) (rest := []) ⟨hx, hb, hml, hown, hts⟩ (c_X4_thrown l dC dI cs bb g' h' (RA_m hR.1.1)) (cwV 0 hts gL_law_X4_thrown rfl rfl rfl (by decide +kernel) ⟨Nat.le_of_ble_eq_true rfl, Nat.le_of_ble_eq_true rfl⟩) (rd_preV (q := (RX4, TX4, 29)) hPm hKc 0 rfl rfl) rfl rfl hl.1 rfl (lv_room (Nat.le_of_ble_eq_true rfl)) dL_law_851 ⟨by show 50 + k0 + 1 + 0 ≤ 601024; omega, by show 2000 + 6 * k0 + 6 + 0 ≤ 7293000; omega⟩) ?_
  refine W.eq (g2 := F0 m 854 ls (.int (nI (g' 0)) :: [])) rfl ?_
  refine lv_iload hx hb dL_law_854 (lv_at hl 1 rfl) ?_
  refine lv_icmp_eq (tgt := 861) hx hb dL_law_856 (by decide) (fun _ => ?_) (fun q => absurd (by rw [hk0]) q)
  refine lv_iload hx hb dL_law_861 (lv_at hl 1 rfl) ?_
  refine lv_if_ne (tgt := 878) hx hb dL_law_863 (by decide) (fun _ => lv_goto (tgt := 1030) hx hb dL_law_878 (by decide) (kk H locs ls ⟨n', f', g', h', z', hR, by rw [lw_split]; exact hP, by rw [lw_split]; exact hD, hS⟩ (lv_sub hl [2, 3, 4, 5, 6] rfl))) (fun q => ?_)
  have hkz : k = 0 := (nI_z (by omega)).mp q
  refine lv_aload_n hx hb dL_law_866 rfl (lv_at hl 5 rfl) ?_
  refine lv_iconst (v := nI 0) hx hb dL_law_867 (by decide) ?_
  refine la_lald hx hb hK hP 19 2 rfl rfl dL_law_868 ?_
  refine lv_iload hx hb dL_law_869 (lv_at hl 0 rfl) ?_
  refine lv_i2l hx hb dL_law_871 rfl ?_
  refine W.lcmp hx hb dL_law_872 ?_
  exact lv_if_eq (tgt := 878) hx hb dL_law_873 (by decide) (fun _ => lv_goto (tgt := 1030) hx hb dL_law_878 (by decide) (kk H locs ls ⟨n', f', g', h', z', hR, by rw [lw_split]; exact hP, by rw [lw_split]; exact hD, hS⟩ (lv_sub hl [2, 3, 4, 5, 6] rfl))) (fun q => absurd ((lg_cmp_eq _ _).mpr (hz hkz)) q)
set_option maxHeartbeats 4000000 in
set_option maxRecDepth 100000 in
theorem cs_queue {p : Program} {l : Launch} {e : Env} {s : State} {m : MethodId} {below : List Frame} {meth : Method} {c : Code} {H : Heap} {locs : List Loc} {Q : State → Prop} {ls : Array Slot} {dC : Nat → ClassId} {dI : Nat → Nat → Nat} {cs : ClassId × ClassId} {c3 : ClassId} {a bb : Nat → Nat} {o b L : Nat} {xs : Nat → Int32} (C0 : lwX l p s m meth c (dC, dI) cs c3 b L xs) {k0 : Nat} (hi : 3 + 4 * k0 + 4 ≤ L) (S0 : lwS s (dC, dI) cs c3 a bb o k0 H locs) (hl : lv_has ls 7 [(0, .ref b), (1, .ref (a 0)), (2, .ref (bb 0)), (3, .ref o), (4, .int (nI (3 + 4 * k0)))]) (kk : ∀ (H : Heap) (locs : List Loc) (ls : Array Slot), lwS s (dC, dI) cs c3 a bb o (k0 + 1) H locs → lv_has ls 7 [(0, .ref b), (1, .ref (a 0)), (2, .ref (bb 0)), (3, .ref o), (4, .int (nI (3 + 4 * k0)))] → W p l e room_1 s m #[Value.ref b] below meth c H locs (50 + k0 + 1) (2000 + 6 * k0 + 6) Q (F0 m 1030 ls [])) : W p l e room_1 s m #[Value.ref b] below meth c H locs (50 + k0) (2000 + 6 * k0) Q (F0 m 881 ls []) := by
  obtain ⟨hlt, hx, hb, hml, hown, hts, hX, hbl, hK, hT, hN, hL⟩ := C0
  obtain ⟨n, f, g, h, z, r, hP, hD, hS⟩ := S0
  have hA : ∀ q, s.heap.size ≤ q → newA s q := fun _ q => q
  have hbA : ¬ newA s b := fun q => absurd hbl (Nat.not_lt.mpr q)
  have hKc : va_K (dC, dI) vwCl (tyl cs) s := hK.sub [0, 1] rfl
  refine lv_aload_n hx hb dL_law_881 rfl (lv_at hl 1 rfl) ?_
  refine lv_aload_n hx hb dL_law_882 rfl (lv_at hl 0 rfl) ?_
  refine lv_iload hx hb dL_law_883 (lv_at hl 4 rfl) ?_
  refine lv_iconst (v := nI 1) hx hb dL_law_885 (by decide) ?_
  refine lv_iadd hx hb dL_law_886 ?_
  refine tp_eq (nI_add (3 + 4 * k0) 1) ?_
  refine la_sld hx hb hX hbl hbA hS (j := 3 + 4 * k0 + 1) (by omega) hL dL_law_887 ?_
  refine lv_aload_n hx hb dL_law_888 rfl (lv_at hl 3 rfl) ?_
  obtain ⟨n', f', g', h', z', k, r9, hMx, ⟨rm, hrc, hrs, hrf, hrl, hMm⟩, hk0, hk4, hz, hR⟩ := op_queue l hlt dC dI cs c3 a bb o r (by omega) (xs (3 + 4 * k0 + 1)) z
  refine wr_callg (ws := lwWd cs c3 a bb o z n f g h) (ws' := lwWd cs c3 a bb o z' n' f' g h) (ov := some (.int (nI k))) (rest := []) (vx_runSW (As := [.ref (a 0), .int (xs (3 + 4 * k0 + 1)), .ref o]) (rest := []) ⟨hx, hb, hml, hown, hts⟩ (hMx H.size) (vx_cwSW 3 hts gL_law_L_queue rfl rfl rfl (by decide +kernel) ⟨Nat.le_of_ble_eq_true rfl, Nat.le_of_ble_eq_true rfl⟩) (hp_preS hP hK hD hT hN hS) rfl rfl hl.1 rfl (lv_room (Nat.le_of_ble_eq_true rfl)) dL_law_889 ⟨by show 50 + k0 + 1 ≤ 601024; omega, by show 2000 + 6 * k0 + 6 ≤ 7293000; omega⟩) hS hD hA rfl (fun H locs hP hD hS => ?_)
  refine W.eq (g2 := F0 m 892 ls (.int (nI k) :: [])) rfl ?_
  refine lv_istore (lv' := [(5, .int (nI k)), (0, .ref b), (1, .ref (a 0)), (2, .ref (bb 0)), (3, .ref o), (4, .int (nI (3 + 4 * k0)))]) hx hb dL_law_892 hl (by decide) rfl (fun ls hl => ?_)
  refine lv_aload_n hx hb dL_law_894 rfl (lv_at hl 3 rfl) ?_
  refine lv_aload_n hx hb dL_law_895 rfl (lv_at hl 1 rfl) ?_
  refine lv_iload hx hb dL_law_896 (lv_at hl 5 rfl) ?_
  refine lv_iconst (v := nI 1) hx hb dL_law_898 (by decide) ?_
  refine lv_iadd hx hb dL_law_899 ?_
  refine tp_eq (nI_add (3 + 4 * k0) 1) ?_
  refine la_sld hx hb hX hbl hbA hS (j := 3 + 4 * k0 + 1) (by omega) hL dL_law_900 ?_
  rw [lw_split] at hP hD
  have hPm : va_P (dC, dI) vwCl (wM cs bb g h) H := blkP (w0 := wX cs a n' f' ++ [(o, .inl (c3, 1, .inr (.inl z')))]) (wr := []) hP
  have hDm : va_D (newA s) (wM cs bb g h) := blkD (w0 := wX cs a n' f' ++ [(o, .inl (c3, 1, .inr (.inl z')))]) (wr := []) hD
  refine blk_call (w0 := wX cs a n' f' ++ [(o, .inl (c3, 1, .inr (.inl z')))]) (wc := wM cs bb g h) (wr := []) (w1 := wM cs bb g' h') (ov := some (.int r9)) (rest := []) (va_runV (As := [.int (xs (3 + 4 * k0 + 1))]) (rest := []) ⟨hx, hb, hml, hown, hts⟩ (hMm H.size) (cwV 1 hts gL_law_X4_queue rfl hrc hrs (by decide +kernel) ⟨by show rm.frames + 1 ≤ 11; omega, by show _ + rm.locals ≤ 394; omega⟩) (wr_preV (q := (RX4, TX4, 29)) hPm hKc hDm 0 rfl rfl) rfl rfl hl.1 rfl (lv_room (Nat.le_of_ble_eq_true rfl)) dL_law_901 ⟨by show 50 + k0 + 1 + 0 ≤ 601024; omega, by show 2000 + 6 * k0 + 6 + 0 ≤ 7293000; omega⟩) hS hP hD hA rfl (fun H locs hP hD hS => ?_)
  refine W.eq (g2 := F0 m 904 ls (.int r9 :: [])) rfl ?_
  refine lv_istore (lv' := [(6, .int r9), (5, .int (nI k)), (0, .ref b), (1, .ref (a 0)), (2, .ref (bb 0)), (3, .ref o), (4, .int (nI (3 + 4 * k0)))]) hx hb dL_law_904 hl (by decide) rfl (fun ls hl => ?_)
  refine lv_aload_n hx hb dL_law_906 rfl (lv_at hl 4 rfl) ?_
  have hPm : va_P (dC, dI) vwCl (wM cs bb g' h') H := blkP (w0 := wX cs a n' f' ++ [(o, .inl (c3, 1, .inr (.inl z')))]) (wr := []) hP
  refine W.callR (W.runV (As := []) (rest := []) ⟨hx, hb, hml, hown, hts⟩ (c_X4_thrown l dC dI cs bb g' h' (RA_m hR.1.1)) (cwV 0 hts gL_law_X4_thrown rfl rfl rfl (by decide +kernel) ⟨Nat.le_of_ble_eq_true rfl, Nat.le_of_ble_eq_true rfl⟩) (rd_preV (q := (RX4, TX4, 29)) hPm hKc 0 rfl rfl) rfl rfl hl.1 rfl (lv_room (Nat.le_of_ble_eq_true rfl)) dL_law_907 ⟨by show 50 + k0 + 1 + 0 ≤ 601024; omega, by show 2000 + 6 * k0 + 6 + 0 ≤ 7293000; omega⟩) ?_
  refine W.eq (g2 := F0 m 910 ls (.int (nI (g' 0)) :: [])) rfl ?_
  refine lv_iload hx hb dL_law_910 (lv_at hl 1 rfl) ?_
  refine lv_icmp_eq (tgt := 917) hx hb dL_law_912 (by decide) (fun _ => ?_) (fun q => absurd (by rw [hk0]) q)
  refine lv_iload hx hb dL_law_917 (lv_at hl 1 rfl) ?_
  refine lv_if_ne (tgt := 934) hx hb dL_law_919 (by decide) (fun _ => lv_goto (tgt := 1030) hx hb dL_law_934 (by decide) (kk H locs ls ⟨n', f', g', h', z', hR, by rw [lw_split]; exact hP, by rw [lw_split]; exact hD, hS⟩ (lv_sub hl [2, 3, 4, 5, 6] rfl))) (fun q => ?_)
  have hkz : k = 0 := (nI_z (by omega)).mp q
  refine lv_aload_n hx hb dL_law_922 rfl (lv_at hl 5 rfl) ?_
  refine lv_iconst (v := nI 0) hx hb dL_law_923 (by decide) ?_
  refine la_lald hx hb hK hP 19 2 rfl rfl dL_law_924 ?_
  refine lv_iload hx hb dL_law_925 (lv_at hl 0 rfl) ?_
  refine lv_i2l hx hb dL_law_927 rfl ?_
  refine W.lcmp hx hb dL_law_928 ?_
  exact lv_if_eq (tgt := 934) hx hb dL_law_929 (by decide) (fun _ => lv_goto (tgt := 1030) hx hb dL_law_934 (by decide) (kk H locs ls ⟨n', f', g', h', z', hR, by rw [lw_split]; exact hP, by rw [lw_split]; exact hD, hS⟩ (lv_sub hl [2, 3, 4, 5, 6] rfl))) (fun q => absurd ((lg_cmp_eq _ _).mpr (hz hkz)) q)
set_option maxHeartbeats 4000000 in
set_option maxRecDepth 100000 in
theorem cs_row {p : Program} {l : Launch} {e : Env} {s : State} {m : MethodId} {below : List Frame} {meth : Method} {c : Code} {H : Heap} {locs : List Loc} {Q : State → Prop} {ls : Array Slot} {dC : Nat → ClassId} {dI : Nat → Nat → Nat} {cs : ClassId × ClassId} {c3 : ClassId} {a bb : Nat → Nat} {o b L : Nat} {xs : Nat → Int32} (C0 : lwX l p s m meth c (dC, dI) cs c3 b L xs) {k0 : Nat} (hi : 3 + 4 * k0 + 4 ≤ L) (S0 : lwS s (dC, dI) cs c3 a bb o k0 H locs) (hl : lv_has ls 7 [(0, .ref b), (1, .ref (a 0)), (2, .ref (bb 0)), (3, .ref o), (4, .int (nI (3 + 4 * k0)))]) (kk : ∀ (H : Heap) (locs : List Loc) (ls : Array Slot), lwS s (dC, dI) cs c3 a bb o (k0 + 1) H locs → lv_has ls 7 [(0, .ref b), (1, .ref (a 0)), (2, .ref (bb 0)), (3, .ref o), (4, .int (nI (3 + 4 * k0)))] → W p l e room_1 s m #[Value.ref b] below meth c H locs (50 + k0 + 1) (2000 + 6 * k0 + 6) Q (F0 m 1030 ls [])) : W p l e room_1 s m #[Value.ref b] below meth c H locs (50 + k0) (2000 + 6 * k0) Q (F0 m 937 ls []) := by
  obtain ⟨hlt, hx, hb, hml, hown, hts, hX, hbl, hK, hT, hN, hL⟩ := C0
  obtain ⟨n, f, g, h, z, r, hP, hD, hS⟩ := S0
  have hA : ∀ q, s.heap.size ≤ q → newA s q := fun _ q => q
  have hbA : ¬ newA s b := fun q => absurd hbl (Nat.not_lt.mpr q)
  have hKc : va_K (dC, dI) vwCl (tyl cs) s := hK.sub [0, 1] rfl
  refine lv_aload_n hx hb dL_law_937 rfl (lv_at hl 1 rfl) ?_
  refine lv_aload_n hx hb dL_law_938 rfl (lv_at hl 0 rfl) ?_
  refine lv_iload hx hb dL_law_939 (lv_at hl 4 rfl) ?_
  refine lv_iconst (v := nI 1) hx hb dL_law_941 (by decide) ?_
  refine lv_iadd hx hb dL_law_942 ?_
  refine tp_eq (nI_add (3 + 4 * k0) 1) ?_
  refine la_sld hx hb hX hbl hbA hS (j := 3 + 4 * k0 + 1) (by omega) hL dL_law_943 ?_
  refine lv_aload_n hx hb dL_law_944 rfl (lv_at hl 0 rfl) ?_
  refine lv_iload hx hb dL_law_945 (lv_at hl 4 rfl) ?_
  refine lv_iconst (v := nI 2) hx hb dL_law_947 (by decide) ?_
  refine lv_iadd hx hb dL_law_948 ?_
  refine tp_eq (nI_add (3 + 4 * k0) 2) ?_
  refine la_sld hx hb hX hbl hbA hS (j := 3 + 4 * k0 + 2) (by omega) hL dL_law_949 ?_
  refine lv_aload_n hx hb dL_law_950 rfl (lv_at hl 3 rfl) ?_
  obtain ⟨n', f', g', h', z', k, r9, hMx, ⟨rm, hrc, hrs, hrf, hrl, hMm⟩, hk0, hk4, hz, hR⟩ := op_row l hlt dC dI cs c3 a bb o r (by omega) (xs (3 + 4 * k0 + 1)) (xs (3 + 4 * k0 + 2)) z
  refine wr_callg (ws := lwWd cs c3 a bb o z n f g h) (ws' := lwWd cs c3 a bb o z' n' f' g h) (ov := some (.int (nI k))) (rest := []) (vx_runSW (As := [.ref (a 0), .int (xs (3 + 4 * k0 + 1)), .int (xs (3 + 4 * k0 + 2)), .ref o]) (rest := []) ⟨hx, hb, hml, hown, hts⟩ (hMx H.size) (vx_cwSW 4 hts gL_law_L_row rfl rfl rfl (by decide +kernel) ⟨Nat.le_of_ble_eq_true rfl, Nat.le_of_ble_eq_true rfl⟩) (hp_preS hP hK hD hT hN hS) rfl rfl hl.1 rfl (lv_room (Nat.le_of_ble_eq_true rfl)) dL_law_951 ⟨by show 50 + k0 + 1 ≤ 601024; omega, by show 2000 + 6 * k0 + 6 ≤ 7293000; omega⟩) hS hD hA rfl (fun H locs hP hD hS => ?_)
  refine W.eq (g2 := F0 m 954 ls (.int (nI k) :: [])) rfl ?_
  refine lv_istore (lv' := [(5, .int (nI k)), (0, .ref b), (1, .ref (a 0)), (2, .ref (bb 0)), (3, .ref o), (4, .int (nI (3 + 4 * k0)))]) hx hb dL_law_954 hl (by decide) rfl (fun ls hl => ?_)
  refine lv_aload_n hx hb dL_law_956 rfl (lv_at hl 3 rfl) ?_
  refine lv_aload_n hx hb dL_law_957 rfl (lv_at hl 1 rfl) ?_
  refine lv_iload hx hb dL_law_958 (lv_at hl 5 rfl) ?_
  refine lv_iconst (v := nI 1) hx hb dL_law_960 (by decide) ?_
  refine lv_iadd hx hb dL_law_961 ?_
  refine tp_eq (nI_add (3 + 4 * k0) 1) ?_
  refine la_sld hx hb hX hbl hbA hS (j := 3 + 4 * k0 + 1) (by omega) hL dL_law_962 ?_
  refine lv_aload_n hx hb dL_law_963 rfl (lv_at hl 1 rfl) ?_
  refine lv_iload hx hb dL_law_964 (lv_at hl 5 rfl) ?_
  refine lv_iconst (v := nI 2) hx hb dL_law_966 (by decide) ?_
  refine lv_iadd hx hb dL_law_967 ?_
  refine tp_eq (nI_add (3 + 4 * k0) 2) ?_
  refine la_sld hx hb hX hbl hbA hS (j := 3 + 4 * k0 + 2) (by omega) hL dL_law_968 ?_
  rw [lw_split] at hP hD
  have hPm : va_P (dC, dI) vwCl (wM cs bb g h) H := blkP (w0 := wX cs a n' f' ++ [(o, .inl (c3, 1, .inr (.inl z')))]) (wr := []) hP
  have hDm : va_D (newA s) (wM cs bb g h) := blkD (w0 := wX cs a n' f' ++ [(o, .inl (c3, 1, .inr (.inl z')))]) (wr := []) hD
  refine blk_call (w0 := wX cs a n' f' ++ [(o, .inl (c3, 1, .inr (.inl z')))]) (wc := wM cs bb g h) (wr := []) (w1 := wM cs bb g' h') (ov := some (.int r9)) (rest := []) (va_runV (As := [.int (xs (3 + 4 * k0 + 1)), .int (xs (3 + 4 * k0 + 2))]) (rest := []) ⟨hx, hb, hml, hown, hts⟩ (hMm H.size) (cwV 2 hts gL_law_X4_row rfl hrc hrs (by decide +kernel) ⟨by show rm.frames + 1 ≤ 11; omega, by show _ + rm.locals ≤ 394; omega⟩) (wr_preV (q := (RX4, TX4, 29)) hPm hKc hDm 0 rfl rfl) rfl rfl hl.1 rfl (lv_room (Nat.le_of_ble_eq_true rfl)) dL_law_969 ⟨by show 50 + k0 + 1 + 0 ≤ 601024; omega, by show 2000 + 6 * k0 + 6 + 0 ≤ 7293000; omega⟩) hS hP hD hA rfl (fun H locs hP hD hS => ?_)
  refine W.eq (g2 := F0 m 972 ls (.int r9 :: [])) rfl ?_
  refine lv_istore (lv' := [(6, .int r9), (5, .int (nI k)), (0, .ref b), (1, .ref (a 0)), (2, .ref (bb 0)), (3, .ref o), (4, .int (nI (3 + 4 * k0)))]) hx hb dL_law_972 hl (by decide) rfl (fun ls hl => ?_)
  refine lv_aload_n hx hb dL_law_974 rfl (lv_at hl 4 rfl) ?_
  have hPm : va_P (dC, dI) vwCl (wM cs bb g' h') H := blkP (w0 := wX cs a n' f' ++ [(o, .inl (c3, 1, .inr (.inl z')))]) (wr := []) hP
  refine W.callR (W.runV (As := []) (rest := []) ⟨hx, hb, hml, hown, hts⟩ (c_X4_thrown l dC dI cs bb g' h' (RA_m hR.1.1)) (cwV 0 hts gL_law_X4_thrown rfl rfl rfl (by decide +kernel) ⟨Nat.le_of_ble_eq_true rfl, Nat.le_of_ble_eq_true rfl⟩) (rd_preV (q := (RX4, TX4, 29)) hPm hKc 0 rfl rfl) rfl rfl hl.1 rfl (lv_room (Nat.le_of_ble_eq_true rfl)) dL_law_975 ⟨by show 50 + k0 + 1 + 0 ≤ 601024; omega, by show 2000 + 6 * k0 + 6 + 0 ≤ 7293000; omega⟩) ?_
  refine W.eq (g2 := F0 m 978 ls (.int (nI (g' 0)) :: [])) rfl ?_
  refine lv_iload hx hb dL_law_978 (lv_at hl 1 rfl) ?_
  refine lv_icmp_eq (tgt := 985) hx hb dL_law_980 (by decide) (fun _ => ?_) (fun q => absurd (by rw [hk0]) q)
  refine lv_iload hx hb dL_law_985 (lv_at hl 1 rfl) ?_
  refine lv_if_ne (tgt := 1002) hx hb dL_law_987 (by decide) (fun _ => lv_goto (tgt := 1030) hx hb dL_law_1002 (by decide) (kk H locs ls ⟨n', f', g', h', z', hR, by rw [lw_split]; exact hP, by rw [lw_split]; exact hD, hS⟩ (lv_sub hl [2, 3, 4, 5, 6] rfl))) (fun q => ?_)
  have hkz : k = 0 := (nI_z (by omega)).mp q
  refine lv_aload_n hx hb dL_law_990 rfl (lv_at hl 5 rfl) ?_
  refine lv_iconst (v := nI 0) hx hb dL_law_991 (by decide) ?_
  refine la_lald hx hb hK hP 19 2 rfl rfl dL_law_992 ?_
  refine lv_iload hx hb dL_law_993 (lv_at hl 0 rfl) ?_
  refine lv_i2l hx hb dL_law_995 rfl ?_
  refine W.lcmp hx hb dL_law_996 ?_
  exact lv_if_eq (tgt := 1002) hx hb dL_law_997 (by decide) (fun _ => lv_goto (tgt := 1030) hx hb dL_law_1002 (by decide) (kk H locs ls ⟨n', f', g', h', z', hR, by rw [lw_split]; exact hP, by rw [lw_split]; exact hD, hS⟩ (lv_sub hl [2, 3, 4, 5, 6] rfl))) (fun q => absurd ((lg_cmp_eq _ _).mpr (hz hkz)) q)
