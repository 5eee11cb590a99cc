/-! my own: what holds as the law begins -/
theorem arr_known {s : State} {args : Array Value} {ty : FieldType} (hp : ty = .int ∨ ty = .boolean ∨ ty = .long) (h : (Cond.arrayClass ty).before args s = true) : ∃ cA : ClassId, ArrOfT s cA ty ∧ va_RA s cA ty := by
  obtain ⟨cA, kA, comp, h1, h2, h3⟩ := Cond.arrayClass_spec h
  refine ⟨cA, fun n z => ⟨fun k h => (by cases h), kA, h2, comp, h3⟩, ?_⟩
  rcases hp with rfl | rfl | rfl <;> exact h1
theorem thA_in : ∀ w ∈ thW 52 56 eA nmA, w ∈ lw_tbl := by decide +kernel
theorem thS_in : ∀ w ∈ thW 100 104 eS nmS, w ∈ lw_tbl := by decide +kernel
theorem thG_in : ∀ w ∈ thW 105 109 eG nmS, w ∈ lw_tbl := by decide +kernel
theorem thT_in : ∀ q ∈ thT, Cond.stringRef RX3 q.1 q.2 ∈ lw_tbl := by decide +kernel
theorem thT_ex : ∀ q ∈ thT, Cond.exactly (.string RX3 q.1) "java/lang/String" ∈ flatC (Jvm.Cond.and given_1 narrow_1) := by decide +kernel
theorem st_known {s : State} {b : Nat} (hts : ∀ w ∈ lw_tbl, w.before #[Value.ref b] s = true) : ∃ (dC : Nat → ClassId) (dI : Nat → Nat → Nat) (cs : ClassId × ClassId) (c3 : ClassId), va_K (dC, dI) vwCl (tyl3 cs c3) s := by
  have hw : ∀ w ∈ wsL_law, w.before #[Value.ref b] s = true := fun w h => hts w (wsL_law_in w h)
  obtain ⟨c0, i0, k0⟩ := u_known (C := RJx00060) (T := TJx00060) (N := 6) (n := 6) hw inlJx00060 (hts (.instantiable RJx00060 6) (by decide +kernel))
  obtain ⟨c1, i1, k1⟩ := u_known (C := RX0) (T := TX0) (N := 3) (n := 3) hw inlX0 (hts (.instantiable RX0 3) (by decide +kernel))
  obtain ⟨c2, i2, k2⟩ := u_known (C := RX1) (T := TX1) (N := 5) (n := 5) hw inlX1 (hts (.instantiable RX1 5) (by decide +kernel))
  obtain ⟨c3, i3, k3⟩ := u_known (C := RX2) (T := TX2) (N := 10) (n := 10) hw inlX2 (hts (.instantiable RX2 10) (by decide +kernel))
  obtain ⟨c4, i4, k4⟩ := u_known (C := RX3) (T := TX3) (N := 9) (n := 9) hw inlX3 (hts (.instantiable RX3 9) (by decide +kernel))
  obtain ⟨c5, i5, k5⟩ := u_known (C := RX4) (T := TX4) (N := 29) (n := 29) hw inlX4 (hts (.instantiable RX4 29) (by decide +kernel))
  obtain ⟨q1, a1⟩ := arr_known (Or.inl rfl) (hts (.arrayClass .int) (by decide +kernel))
  obtain ⟨q2, a2⟩ := arr_known (Or.inr (Or.inl rfl)) (hts (.arrayClass .boolean) (by decide +kernel))
  obtain ⟨q3, a3⟩ := arr_known (Or.inr (Or.inr rfl)) (hts (.arrayClass .long) (by decide +kernel))
  refine ⟨fun k => match k with | 0 => c0 | 1 => c1 | 2 => c2 | 3 => c3 | 4 => c4 | _ => c5, fun k => match k with | 0 => i0 | 1 => i1 | 2 => i2 | 3 => i3 | 4 => i4 | _ => i5, (q1, q2), q3, fun k q hq => ?_, fun k q hq => ?_⟩
  · match k, hq with
    | 0, hq => cases hq; exact k0
    | 1, hq => cases hq; exact k1
    | 2, hq => cases hq; exact k2
    | 3, hq => cases hq; exact k3
    | 4, hq => cases hq; exact k4
    | 5, hq => cases hq; exact k5
    | k + 6, hq => simp at hq
  · match k, hq with
    | 0, hq => cases hq; exact a1
    | 1, hq => cases hq; exact a2
    | 2, hq => cases hq; exact a3
    | k + 3, hq => simp at hq
theorem st_thB {s : State} {b : Nat} (hts : ∀ w ∈ lw_tbl, w.before #[Value.ref b] s = true) (hgv : (Jvm.Cond.and given_1 narrow_1).before #[Value.ref b] s = true) : thB s := by
  have hs := flat_of_before _ hgv
  refine ⟨fun w hw => mvW_moved (State.WarmedH.refl s) (thA_m w hw).1 (hts w (thA_in w hw)), fun w hw => mvW_moved (State.WarmedH.refl s) (thS_m w hw).1 (hts w (thS_in w hw)), fun w hw => mvW_moved (State.WarmedH.refl s) (thG_m w hw).1 (hts w (thG_in w hw)), fun q hq => ?_, ?_, ?_⟩
  · have hex : (Cond.exactly (.string RX3 q.1) "java/lang/String").before #[Value.ref b] s = true := hs _ (thT_ex q hq)
    obtain ⟨a, -, -, -, ha, -⟩ := Cond.exactly_spec hex
    exact ⟨a, vk_R.of (hts _ (thT_in q hq)) ha⟩
  · exact vx_Zqof (hts (.laysStatic Bundle.tN "UNASSIGNED_STACK" Bundle.steD) (by decide +kernel)) (hts (.initialized Bundle.tN) (by decide +kernel)) (hs (.isRef (.static Bundle.tN "UNASSIGNED_STACK" Bundle.steD)) (by decide +kernel)) (fun _ _ h => h)
  · exact vx_Zqof (hts (.laysStatic Bundle.tN "SUPPRESSED_SENTINEL" Bundle.listD) (by decide +kernel)) (hts (.initialized Bundle.tN) (by decide +kernel)) (hs (.isRef (.static Bundle.tN "SUPPRESSED_SENTINEL" Bundle.listD)) (by decide +kernel)) (fun _ _ h => h)
theorem st_thN {s : State} {b : Nat} (hts : ∀ w ∈ lw_tbl, w.before #[Value.ref b] s = true) (hgv : (Jvm.Cond.and given_1 narrow_1).before #[Value.ref b] s = true) : thN s := by
  have hs := flat_of_before _ hgv
  exact ⟨va_Nc.of (hs (.not (.castable eS eA)) (by decide +kernel)), va_Nc.of (hs (.not (.castable eG eA)) (by decide +kernel)), va_Nc.of (hs (.not (.castable eG eS)) (by decide +kernel)), mvW_moved (State.WarmedH.refl s) rfl (hts (.classLink RL 13 eA) (by decide +kernel))⟩
theorem st_niN {s : State} {b : Nat} (hts : ∀ w ∈ lw_tbl, w.before #[Value.ref b] s = true) : niN s := va_Nw.of rfl (hts (.methodLinkNest RX3 33 yX0_init "RenameRows") (by decide +kernel))
