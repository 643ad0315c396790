/-! THE START: WHAT THE ENTRY GIVES -/
theorem st_ao {s : State} {as : Array Value} {n : String} (h : (Cond.arrayOver (.object n)).before as s = true) : ∃ cA : ClassId, ArrOfT s cA (.object n) ∧ va_RA s cA (.object n) := by
  obtain ⟨comp, cA, kA, f1, f2, f3, f4, f5⟩ := Cond.arrayOver_spec h
  exact ⟨cA, fun N z => ⟨fun k h => (by cases h), kA, f3, comp, f4⟩, kA, comp, f3, f4, f1, f5⟩
theorem st_ac {s : State} {as : Array Value} {ty : FieldType} (h : (Cond.arrayClass ty).before as s = true) (hr : ∀ cA : ClassId, s.vm.findClass ("[" ++ ty.toString) = some cA → va_RA s cA ty) : ∃ cA : ClassId, ArrOfT s cA ty ∧ va_RA s cA ty := by
  obtain ⟨cA, kA, comp, f1, f2, f3⟩ := Cond.arrayClass_spec h
  exact ⟨cA, fun N z => ⟨fun k h => (by cases h), kA, f2, comp, f3⟩, hr cA f1⟩
theorem st_K {s : State} {as : Array Value} (htl : ∀ w ∈ lw_tbl, w.before as s = true) (hts : ∀ w ∈ Tg, w.before as s = true) : ∃ d : GG, ∀ (l : Launch) (A : Nat → Prop), va_K (gD (l, d, A)) vwCl (gtys (l, d, A)) s := by
  obtain ⟨c0, i0, K0⟩ := u_known (C := RX0) (T := TX0) (N := 8) (n := 8) hts igX0 (hts (.instantiable RX0 8) in_X0)
  obtain ⟨c1, i1, K1⟩ := u_known (C := RX1) (T := TX1) (N := 11) (n := 11) hts igX1 (hts (.instantiable RX1 11) in_X1)
  obtain ⟨c2, i2, K2⟩ := u_known (C := RX2) (T := TX2) (N := 8) (n := 8) hts igX2 (hts (.instantiable RX2 8) in_X2)
  obtain ⟨c3, i3, K3⟩ := u_known (C := RX3) (T := TX3) (N := 7) (n := 7) hts igX3 (hts (.instantiable RX3 7) in_X3)
  obtain ⟨c4, i4, K4⟩ := u_known (C := RX4) (T := TX4) (N := 12) (n := 12) hts igX4 (hts (.instantiable RX4 12) in_X4)
  obtain ⟨cI, bI⟩ := st_ac (ty := .int) (hts _ aI) (fun _ h => h)
  obtain ⟨cJ, bJ⟩ := st_ac (ty := .long) (hts _ aJ) (fun _ h => h)
  obtain ⟨cCh, aCh⟩ := st_ao (htl (.arrayOver (.object "LiftDrill$Chair")) (by decide +kernel))
  obtain ⟨cTm, aTm⟩ := st_ao (htl (.arrayOver (.object "LiftDrill$Team")) (by decide +kernel))
  obtain ⟨cLn, aLn⟩ := st_ao (htl (.arrayOver (.object "LiftDrill$Line")) (by decide +kernel))
  refine ⟨((fun k => match k with | 0 => c0 | 1 => c1 | 2 => c2 | 3 => c3 | _ => c4, fun k => match k with | 0 => i0 | 1 => i1 | 2 => i2 | 3 => i3 | _ => i4), (cI, cJ, cCh, cTm, cLn)), fun l A => ⟨?_, ?_⟩⟩
  · intro k q hq
    match k, hq with
    | 0, hq => cases hq; exact K0
    | 1, hq => cases hq; exact K1
    | 2, hq => cases hq; exact K2
    | 3, hq => cases hq; exact K3
    | 4, hq => cases hq; exact K4
    | k + 5, hq => simp [vwCl] at hq
  · intro k q hq
    match k, hq with
    | 0, hq => cases hq; exact bI
    | 1, hq => cases hq; exact bJ
    | 2, hq => cases hq; exact aCh
    | 3, hq => cases hq; exact aTm
    | 4, hq => cases hq; exact aLn
    | k + 5, hq => simp [gtys] at hq
