/-! THE START: WHAT THE ENTRY GIVES -/
theorem st_ao {s : State} {as : Array Value} {n : String} (h : (Cond.arrayOver (.object n)).before as s = true) : ∃ cA : ClassId, ArrOfT s cA (.object n) ∧ va_RA s cA (.object n) := by
  obtain ⟨comp, cA, kA, f1, f2, f3, f4, f5⟩ := Cond.arrayOver_spec h
  exact ⟨cA, fun N z => ⟨fun k h => (by cases h), kA, f3, comp, f4⟩, kA, comp, f3, f4, f1, f5⟩
theorem st_ac {s : State} {as : Array Value} {ty : FieldType} (h : (Cond.arrayClass ty).before as s = true) (hr : ∀ cA : ClassId, s.vm.findClass ("[" ++ ty.toString) = some cA → va_RA s cA ty) : ∃ cA : ClassId, ArrOfT s cA ty ∧ va_RA s cA ty := by
  obtain ⟨cA, kA, comp, f1, f2, f3⟩ := Cond.arrayClass_spec h
  exact ⟨cA, fun N z => ⟨fun k h => (by cases h), kA, f2, comp, f3⟩, hr cA f1⟩
theorem st_K {s : State} {as : Array Value} (htl : ∀ w ∈ lw_tbl, w.before as s = true) (hts : ∀ w ∈ Tg, w.before as s = true) : ∃ d : GG, ∀ (l : Launch) (A : Nat → Prop), va_K (gD (l, d, A)) vwCl (gtys (l, d, A)) s := by
  obtain ⟨c0, i0, K0⟩ := u_known (C := RX0) (T := TX0) (N := 8) (n := 8) hts igX0 (hts (.instantiable RX0 8) in_X0)
  obtain ⟨c1, i1, K1⟩ := u_known (C := RX1) (T := TX1) (N := 11) (n := 11) hts igX1 (hts (.instantiable RX1 11) in_X1)
  obtain ⟨c2, i2, K2⟩ := u_known (C := RX2) (T := TX2) (N := 8) (n := 8) hts igX2 (hts (.instantiable RX2 8) in_X2)
  obtain ⟨c3, i3, K3⟩ := u_known (C := RX3) (T := TX3) (N := 7) (n := 7) hts igX3 (hts (.instantiable RX3 7) in_X3)
  obtain ⟨cI, bI⟩ := st_ac (ty := .int) (hts _ aI) (fun _ h => h)
  obtain ⟨cCh, aCh⟩ := st_ao (htl (.arrayOver (.object "LiftDrill$Chair")) (by decide +kernel))
  obtain ⟨cTm, aTm⟩ := st_ao (htl (.arrayOver (.object "LiftDrill$Team")) (by decide +kernel))
  obtain ⟨cLn, aLn⟩ := st_ao (htl (.arrayOver (.object "LiftDrill$Line")) (by decide +kernel))
  refine ⟨((fun k => match k with | 0 => c0 | 1 => c1 | 2 => c2 | _ => c3, fun k => match k with | 0 => i0 | 1 => i1 | 2 => i2 | _ => i3), (cI, cI, cCh, cTm, cLn)), fun l A => ⟨?_, ?_⟩⟩
  · intro k q hq
    match k, hq with
    | 0, hq => cases hq; exact K0
    | 1, hq => cases hq; exact K1
    | 2, hq => cases hq; exact K2
    | 3, hq => cases hq; exact K3
    | k + 4, hq => simp [vwCl] at hq
  · intro k q hq
    match k, hq with
    | 0, hq => cases hq; exact bI
    | 1, hq => cases hq; exact bI
    | 2, hq => cases hq; exact aCh
    | 3, hq => cases hq; exact aTm
    | 4, hq => cases hq; exact aLn
    | k + 5, hq => simp [gtys] at hq
/-! THE START: WHAT A THROW AND THE CONSTRUCTORS NEED -/
theorem st_CC {s : State} {as : Array Value} (htl : ∀ w ∈ lw_tbl, w.before as s = true) : CCs s :=
  ⟨⟨va_AO.of (htl _ (by decide +kernel)), va_AO.of (htl _ (by decide +kernel)), va_AO.of (htl _ (by decide +kernel))⟩, va_Nw.of rfl (htl (.methodLinkNest RX1 21 yX0_init "LiftDrill") (by decide +kernel)), va_Nw.of rfl (htl (.methodLinkNest RX1 28 yX2_init "LiftDrill") (by decide +kernel))⟩
theorem st_ca {s : State} {as : Array Value} (htl : ∀ w ∈ lw_tbl, w.before as s = true) : (∀ X ∈ xAll, va_Nw (.castable X X) s) ∧ ∀ x ∈ xDec, va_Nw (.declares x) s := by
  have h1 : ∀ X ∈ xAll, Cond.castable X X ∈ lw_tbl := by decide +kernel
  have h2 : ∀ x ∈ xDec, Cond.declares x ∈ lw_tbl := by decide +kernel
  exact ⟨fun X hX => va_Nw.of rfl (htl _ (h1 X hX)), fun x hx => va_Nw.of rfl (htl _ (h2 x hx))⟩
theorem st_nc {s : State} {as : Array Value} (hg : (Jvm.Cond.and given_1 narrow_1).before as s = true) : va_Nc xA xI s ∧ va_Nc xS xI s ∧ va_Nc xS xA s := by
  have hs := flat_of_before _ hg
  exact ⟨va_Nc.of (hs (.not (.castable xA xI)) (by decide +kernel)), va_Nc.of (hs (.not (.castable xS xI)) (by decide +kernel)), va_Nc.of (hs (.not (.castable xS xA)) (by decide +kernel))⟩
theorem st_zq {s : State} {as : Array Value} (htl : ∀ w ∈ lw_tbl, w.before as s = true) (hg : (Jvm.Cond.and given_1 narrow_1).before as s = true) : vx_Zq Bundle.tN "UNASSIGNED_STACK" Bundle.steD (fun q : Nat => s.heap.size ≤ q) s s.heap ∧ vx_Zq Bundle.tN "SUPPRESSED_SENTINEL" Bundle.listD (fun q : Nat => s.heap.size ≤ q) s s.heap := by
  have hs := flat_of_before _ hg
  exact ⟨vx_Zqof (htl (.laysStatic Bundle.tN "UNASSIGNED_STACK" Bundle.steD) (by decide +kernel)) (htl (.initialized Bundle.tN) (by decide +kernel)) (hs (.isRef (.static Bundle.tN "UNASSIGNED_STACK" Bundle.steD)) (by decide +kernel)) (fun _ h => Nat.not_le.mpr h),
    vx_Zqof (htl (.laysStatic Bundle.tN "SUPPRESSED_SENTINEL" Bundle.listD) (by decide +kernel)) (htl (.initialized Bundle.tN) (by decide +kernel)) (hs (.isRef (.static Bundle.tN "SUPPRESSED_SENTINEL" Bundle.listD)) (by decide +kernel)) (fun _ h => Nat.not_le.mpr h)⟩
theorem st_str {s : State} {as : Array Value} (htl : ∀ w ∈ lw_tbl, w.before as s = true) (hg : (Jvm.Cond.and given_1 narrow_1).before as s = true) : ∀ x ∈ xStr, ∃ sa, vk_R RX3 x.1 x.2 sa s := by
  have h1 : ∀ x ∈ xStr, Cond.stringRef RX3 x.1 x.2 ∈ lw_tbl := by decide +kernel
  have h2 : ∀ x ∈ xStr, Cond.exactly (.string RX3 x.1) "java/lang/String" ∈ flatC (Jvm.Cond.and given_1 narrow_1) := by decide +kernel
  intro x hx
  obtain ⟨sa, cc, cell, kk, f1, -⟩ := Cond.exactly_spec (flat_of_before _ hg _ (h2 x hx))
  exact ⟨sa, vk_R.of (htl _ (h1 x hx)) f1⟩
theorem st_Z {s : State} {as : Array Value} {l : Launch} {d : GG} (htl : ∀ w ∈ lw_tbl, w.before as s = true) (hg : (Jvm.Cond.and given_1 narrow_1).before as s = true) : ZZ (l, d, fun q : Nat => s.heap.size ≤ q) s s.heap :=
  ⟨st_zq htl hg, st_str htl hg, st_nc hg, (st_ca htl).1, (st_ca htl).2⟩
/-! THE START -/
set_option maxHeartbeats 4000000 in
theorem whole_start {p : Program} {e : Env} {s : State} {m : MethodId} {below : List Frame} {meth : Method} {c : Code} (l : Launch) (hflags : l.flags = flags0) {b L : Nat} {xs : Nat → Int32} (hL : L ≤ 260) (C0 : lw_At p s m meth c b L xs) : W p l e room_1 s m #[Value.ref b] below meth c s.heap [] 0 0 (lw_Z below #[Value.ref b] s) (entryFrame m ([Value.ref b] : List Value).toArray 9) := by
  obtain ⟨hx, hb, hr, hml, hown, hts, hX, hbl, hlocks, hgv⟩ := id C0
  have htg : ∀ w ∈ Tg, w.before #[Value.ref b] s = true := fun w hw => hts w (List.mem_filter.mp hw).1
  obtain ⟨d, hK⟩ := st_K hts htg
  have hE : l.stackTraces = false := by unfold Launch.stackTraces; rw [hflags]; decide
  have h := law_start (E := (l, d, fun q : Nat => s.heap.size ≤ q)) (Γ := (p, e, room_1, s, m, #[Value.ref b], below, meth, c, lw_Z below #[Value.ref b] s)) (b := b) (D := s.heap.size) (N := L) (xs := xs) (wb := fun _ => none)
    ⟨hx, hb, hml, hown, htg, hlocks, hK l _, rfl, fun _ h => h⟩ (st_Z hts hgv) ⟨hX, hbl, Nat.not_le.mpr hbl⟩ ⟨rfl, hr, rfl, rfl⟩ (st_CC hts) hE hL
  rw [lg_entry_eq]
  have hl := lv_entry ([.ref b]) (n := 9) (Nat.le_of_ble_eq_true rfl)
  refine h s.heap [] _ ⟨rfl, fun a x hx => by cases hx⟩ va_S.rf ?_
  rw [hml]
  exact ⟨hl.1, hl.2.1, fun k v hk => hl.2.2 (k, v) (loE_in [.ref b] 9 k v hk)⟩
