/-! THE LAW'S START -/
theorem gN_d {D : Nat} : ∀ j, j < 7 → defaultValue (tyX3 j) = vp_V (gN D 0) j := by
  intro j hj
  rcases (show j = 0 ∨ j = 1 ∨ j = 2 ∨ j = 3 ∨ j = 4 ∨ j = 5 ∨ j = 6 by omega) with rfl | rfl | rfl | rfl | rfl | rfl | rfl <;> rfl
theorem hN_d {D : Nat} : ∀ j, j < 12 → defaultValue (tyX4 j) = vp_V (hN D 0) j := by
  intro j hj
  rcases (show j = 0 ∨ j = 1 ∨ j = 2 ∨ j = 3 ∨ j = 4 ∨ j = 5 ∨ j = 6 ∨ j = 7 ∨ j = 8 ∨ j = 9 ∨ j = 10 ∨ j = 11 by omega) with rfl | rfl | rfl | rfl | rfl | rfl | rfl | rfl | rfl | rfl | rfl | rfl <;> rfl
theorem gW_0 {C : Nat → va_E} {B : Nat} {wb : Nat → Option va_E} : ((B, wb) : Wo) = gW C B 0 wb := by
  refine Prod.ext rfl (funext fun a => ?_)
  show wb a = if B ≤ a ∧ a < B + 0 then some (C (a - B)) else wb a
  rw [if_neg (by omega)]
theorem start_W {E : EE} {D : Nat} {wb : Nat → Option va_E} : wnew (ml E (D + 141) (s0 6) (fun _ _ => 0) (fun _ => 0) (fun _ => 0) (fun _ => 0) (fun _ => 0) (fun _ => 0) 0 (D + 141 + 7, (dl E D (rstS (fun _ => 0) 3) (fun _ => 0) (fun _ _ => 0) 0 0 0 (fun _ => 0) (D + 141, wb)).2)) (.inl (gJ E, 1, .inr (.inl (fun _ => 0)))) = sW E D d00 r00 (fun _ => 0) (D + 149) (fun _ => 0) wb := by
  refine Prod.ext rfl (funext fun a => ?_)
  show (if a = D + 141 + 7 then _ else _) = _
  by_cases h : a = D + 148
  · subst h
    rw [if_pos (by omega), sW_o]
  · rw [if_neg (by omega)]
    unfold sW dW
    by_cases h1 : a < D ∨ D + 141 ≤ a
    · rw [dl_out h1]
      unfold mW
      by_cases h2 : a < D + 141 ∨ D + 141 + 7 ≤ a
      · rw [ml_out h2, ml_out h2]
        show (dl E D (rstS (fun _ => 0) 3) (fun _ => 0) (fun _ _ => 0) 0 0 0 (fun _ => 0) (D + 141, wb)).2 a = if a = D + 148 then _ else wb a
        rw [if_neg h, dl_out h1]
      · obtain ⟨o, rfl⟩ : ∃ o, a = D + 141 + o := ⟨a - (D + 141), by omega⟩
        rw [ml_at o (by omega), ml_at o (by omega)]
        rfl
    · obtain ⟨o, rfl⟩ : ∃ o, a = D + o := ⟨a - D, by omega⟩
      rw [ml_out (by omega), dl_at o (by omega), dl_at o (by omega)]
      rfl
theorem lk_L_67i : Cond.methodLink RL 67 (mY mX3_init) ∈ Tg := lk_L_67
theorem lk_L_70i : Cond.methodLink RL 70 (mY mX4_init) ∈ Tg := lk_L_70
set_option maxRecDepth 100000 in
set_option maxHeartbeats 4000000 in
theorem law_start {E : EE} {Γ : Cx} {b D N : Nat} {xs : Nat → Int32} {wb : Nat → Option va_E} (h : OkB E Γ mLaw RL) (hZ : ZG E Γ) (hX : XG E Γ b N xs) (hL : LG E Γ b) (hC : CG Γ) (hE : E.1.stackTraces = false) (hN2 : N ≤ 2560) : V E Γ 0 0 0 [some (.ref b), none, none, none, none, none, none, none, none] [] (D, wb) := by
  refine v_new (ci := 3) (fs := gN D 0) h 0 3 tyX3 tyX3_ok igX3 ck8 in_X3 ii_X3 rfl gN_d dL_law_0 rfl ⟨by decide, by decide⟩ ?_
  refine V.world (w' := gW (dC0 E D 0 (fun _ => 0) 0) D 1 wb) (by rw [gW_0 (C := dC0 E D 0 (fun _ => 0) 0)]; exact gW_new rfl) ?_
  refine v_dup h 3 4 dL_law_3 rfl rfl ?_
  refine v_initC (M2 := mX3_init) h hC 4 7 dL_law_4 rfl cb_X3_init rfl im_X3 ii_X3 lk_L_67i (rok (by decide) (by decide)) ⟨by decide, by decide⟩ rfl (k_X3init (D := D)) (Nat.le_of_ble_eq_true rfl) ?_
  refine v_astore_n (i := 1) h 7 8 dL_law_7 rfl rfl (by decide) (so1 rfl) ?_
  refine v_new (ci := 4) (fs := hN (D + 141) 0) h 8 11 tyX4 tyX4_ok igX4 ck68 in_X4 ii_X4 rfl hN_d dL_law_8 rfl ⟨by decide, by decide⟩ ?_
  refine V.world (w' := gW (mC0 E (D + 141) 0 (fun _ => 0)) (D + 141) 1 (dl E D (rstS (fun _ => 0) 3) (fun _ => 0) (fun _ _ => 0) 0 0 0 (fun _ => 0) (D + 141, wb)).2) (by
    rw [← gW_new (C := mC0 E (D + 141) 0 (fun _ => 0)) (o := 0) rfl, ← gW_0]
    rfl) ?_
  refine v_dup h 11 12 dL_law_11 rfl rfl ?_
  refine v_initC (M2 := mX4_init) h hC 12 15 dL_law_12 rfl cb_X4_init rfl im_X4 ii_X4 lk_L_70i (rok (by decide) (by decide)) ⟨by decide, by decide⟩ rfl (k_X4init (M := D + 141)) (Nat.le_of_ble_eq_true rfl) ?_
  refine v_astore_n (i := 2) h 15 16 dL_law_15 rfl rfl (by decide) (so2 rfl) ?_
  refine v_iconst (v := nI 1) h 16 17 dL_law_16 rfl (by decide) ?_
  refine v_newJ (N := 1) h 17 19 dL_law_17 rfl (nI_pos (by omega)) (nI_clamp (by omega)) (by omega) aJ ⟨by decide, by decide⟩ ?_
  refine V.world start_W ?_
  refine v_astore_n (i := 3) h 19 20 dL_law_19 rfl rfl (by decide) (so3 rfl) ?_
  refine v_iconst (v := nI 0) h 20 21 dL_law_20 rfl (by decide) ?_
  refine v_istore (i := 4) h 21 23 dL_law_21 rfl (by decide) (so4 rfl) ?_
  exact law_loop h hZ hX hL hE hN2 600 0 _ _ ⟨by omega, by omega⟩ (by decide) (by decide) d00 r00 (fun _ => 0) (D + 149) (fun _ => 0) rel_0
