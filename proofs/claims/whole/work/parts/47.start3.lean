/-! THE START -/
set_option maxHeartbeats 4000000 in
theorem whole_start {p : Program} {e : Env} {s : State} {m : MethodId} {below : List Frame} {meth : Method} {c : Code} (l : Launch) (hflags : l.flags = flags0) {b L : Nat} {xs : Nat → Int32} (hL : L ≤ 2560) (C0 : lw_At p s m meth c b L xs) : W p l e room_1 s m #[Value.ref b] below meth c s.heap [] 0 0 (lw_Z below #[Value.ref b] s) (entryFrame m ([Value.ref b] : List Value).toArray 9) := by
  obtain ⟨hx, hb, hr, hml, hown, hts, hX, hbl, hlocks, hgv⟩ := id C0
  have htg : ∀ w ∈ Tg, w.before #[Value.ref b] s = true := fun w hw => hts w (List.mem_filter.mp hw).1
  obtain ⟨d, hK⟩ := st_K hts htg
  have hE : l.stackTraces = false := by unfold Launch.stackTraces; rw [hflags]; decide
  have h := law_start (E := (l, d, fun q : Nat => s.heap.size ≤ q)) (Γ := (p, e, room_1, s, m, #[Value.ref b], below, meth, c, lw_Z below #[Value.ref b] s)) (b := b) (D := s.heap.size) (N := L) (xs := xs) (wb := fun _ => none)
    ⟨hx, hb, hml, hown, htg, hlocks, hK l _, rfl, fun _ h => h⟩ (st_Z hts hgv) ⟨hX, hbl, Nat.not_le.mpr hbl⟩ ⟨rfl, hr, rfl, rfl⟩ (st_CC hts) hE hL
  rw [lg_entry_eq]
  have hl := lv_entry ([.ref b]) (n := 9) (Nat.le_of_ble_eq_true rfl)
  refine h s.heap [] _ ⟨rfl, fun a x hx => by cases hx⟩ va_S.rf ?_
  rw [hml]
  exact ⟨hl.1, hl.2.1, fun k v hk => hl.2.2 (k, v) (loE_in [.ref b] 9 k v hk)⟩
