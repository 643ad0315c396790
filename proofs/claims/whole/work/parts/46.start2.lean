/-! THE START: WHAT A THROW AND THE CONSTRUCTORS NEED -/
theorem st_CC {s : State} {as : Array Value} (htl : ∀ w ∈ lw_tbl, w.before as s = true) : CCs s :=
  ⟨⟨va_AO.of (htl _ (by decide +kernel)), va_AO.of (htl _ (by decide +kernel)), va_AO.of (htl _ (by decide +kernel))⟩, va_Nw.of rfl (htl (.methodLinkNest RX1 21 yX0_init "LiftDrill") (by decide +kernel)), va_Nw.of rfl (htl (.methodLinkNest RX1 28 yX2_init "LiftDrill") (by decide +kernel))⟩
theorem st_ca {s : State} {as : Array Value} (htl : ∀ w ∈ lw_tbl, w.before as s = true) : (∀ X ∈ xAll, va_Nw (.castable X X) s) ∧ ∀ x ∈ xDec, va_Nw (.declares x) s := by
  have h1 : ∀ X ∈ xAll, Cond.castable X X ∈ lw_tbl := by decide +kernel
  have h2 : ∀ x ∈ xDec, Cond.declares x ∈ lw_tbl := by decide +kernel
  exact ⟨fun X hX => va_Nw.of rfl (htl _ (h1 X hX)), fun x hx => va_Nw.of rfl (htl _ (h2 x hx))⟩
theorem st_nc {s : State} {as : Array Value} (hg : (Jvm.Cond.and given_1 narrow_1).before as s = true) : va_Nc xA xI s ∧ va_Nc xS xI s ∧ va_Nc xS xA s := by
  have hs := flat_of_before _ hg
  exact ⟨va_Nc.of (hs (.not (.castable xA xI)) (by decide +kernel)), va_Nc.of (hs (.not (.castable xS xI)) (by decide +kernel)), va_Nc.of (hs (.not (.castable xS xA)) (by decide +kernel))⟩
theorem st_zq {s : State} {as : Array Value} (htl : ∀ w ∈ lw_tbl, w.before as s = true) (hg : (Jvm.Cond.and given_1 narrow_1).before as s = true) : vx_Zq Bundle.tN "UNASSIGNED_STACK" Bundle.steD (fun q : Nat => s.heap.size ≤ q) s s.heap ∧ vx_Zq Bundle.tN "SUPPRESSED_SENTINEL" Bundle.listD (fun q : Nat => s.heap.size ≤ q) s s.heap := by
  have hs := flat_of_before _ hg
  exact ⟨vx_Zqof (htl (.laysStatic Bundle.tN "UNASSIGNED_STACK" Bundle.steD) (by decide +kernel)) (htl (.initialized Bundle.tN) (by decide +kernel)) (hs (.isRef (.static Bundle.tN "UNASSIGNED_STACK" Bundle.steD)) (by decide +kernel)) (fun _ h => Nat.not_le.mpr h),
    vx_Zqof (htl (.laysStatic Bundle.tN "SUPPRESSED_SENTINEL" Bundle.listD) (by decide +kernel)) (htl (.initialized Bundle.tN) (by decide +kernel)) (hs (.isRef (.static Bundle.tN "SUPPRESSED_SENTINEL" Bundle.listD)) (by decide +kernel)) (fun _ h => Nat.not_le.mpr h)⟩
theorem st_str {s : State} {as : Array Value} (htl : ∀ w ∈ lw_tbl, w.before as s = true) (hg : (Jvm.Cond.and given_1 narrow_1).before as s = true) : ∀ x ∈ xStr, ∃ sa, vk_R RX3 x.1 x.2 sa s := by
  have h1 : ∀ x ∈ xStr, Cond.stringRef RX3 x.1 x.2 ∈ lw_tbl := by decide +kernel
  have h2 : ∀ x ∈ xStr, Cond.exactly (.string RX3 x.1) "java/lang/String" ∈ flatC (Jvm.Cond.and given_1 narrow_1) := by decide +kernel
  intro x hx
  obtain ⟨sa, cc, cell, kk, f1, -⟩ := Cond.exactly_spec (flat_of_before _ hg _ (h2 x hx))
  exact ⟨sa, vk_R.of (htl _ (h1 x hx)) f1⟩
theorem st_Z {s : State} {as : Array Value} {l : Launch} {d : GG} (htl : ∀ w ∈ lw_tbl, w.before as s = true) (hg : (Jvm.Cond.and given_1 narrow_1).before as s = true) : ZZ (l, d, fun q : Nat => s.heap.size ≤ q) s s.heap :=
  ⟨st_zq htl hg, st_str htl hg, st_nc hg, (st_ca htl).1, (st_ca htl).2⟩
