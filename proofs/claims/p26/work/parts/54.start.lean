/-! THE LAW'S START -/
theorem gN_d {D : Nat} : ∀ j, j < 7 → defaultValue (tyX3 j) = vp_V (gN D 0) j := by
  intro j hj
  rcases (show j = 0 ∨ j = 1 ∨ j = 2 ∨ j = 3 ∨ j = 4 ∨ j = 5 ∨ j = 6 by omega) with rfl | rfl | rfl | rfl | rfl | rfl | rfl <;> rfl
theorem gW_0 {C : Nat → va_E} {B : Nat} {wb : Nat → Option va_E} : ((B, wb) : Wo) = gW C B 0 wb := by
  refine Prod.ext rfl (funext fun a => ?_)
  show wb a = if B ≤ a ∧ a < B + 0 then some (C (a - B)) else wb a
  rw [if_neg (by omega)]
theorem lk_L_140i : Cond.methodLink RL 140 (mY mX3_init) ∈ Tg := lk_L_140
set_option maxRecDepth 100000 in
set_option maxHeartbeats 4000000 in
theorem law_start {E : EE} {Γ : Cx} {b D N : Nat} {xs : Nat → Int32} {wb : Nat → Option va_E} (h : OkB E Γ mLaw RL) (hZ : ZG E Γ) (hX : XG E Γ b N xs) (hL : LG E Γ b) (hC : CG Γ) (hE : E.1.stackTraces = false) (hN2 : N ≤ 260) : V E Γ 0 0 0 [some (.ref b), none, none, none, none, none, none, none, none] [] (D, wb) := by
  refine v_new (ci := 3) (fs := gN D 0) h 0 3 tyX3 tyX3_ok igX3 ckD in_X3 ii_X3 rfl gN_d dL_law_0 rfl ⟨by decide, by decide⟩ ?_
  refine V.world (w' := gW (dC0 E D 0 (fun _ => 0) 0) D 1 wb) (by rw [gW_0 (C := dC0 E D 0 (fun _ => 0) 0)]; exact gW_new rfl) ?_
  refine v_dup h 3 4 dL_law_3 rfl rfl ?_
  refine v_initC (M2 := mX3_init) h hC 4 7 dL_law_4 rfl cb_X3_init rfl im_X3 ii_X3 lk_L_140i (rok (by decide) (by decide)) ⟨by decide, by decide⟩ rfl (k_X3init (D := D)) (Nat.le_of_ble_eq_true rfl) ?_
  refine v_astore_n (i := 1) h 7 8 dL_law_7 rfl rfl (by decide) (so1 rfl) ?_
  refine v_bipush (v := nI 13) h 8 10 dL_law_8 rfl (by decide) ?_
  refine v_newI (N := 13) h 10 12 dL_law_10 rfl (nI_pos (by omega)) (nI_clamp (by omega)) (by omega) aI ⟨by decide, by decide⟩ ?_
  refine v_astore_n (i := 2) h 12 13 dL_law_12 rfl rfl (by decide) (so2 rfl) ?_
  refine v_bipush (v := nI 64) h 13 15 dL_law_13 rfl (by decide) ?_
  refine v_newI (N := 64) h 15 17 dL_law_15 rfl (nI_pos (by omega)) (nI_clamp (by omega)) (by omega) aI ⟨by decide, by decide⟩ ?_
  refine v_astore_n (i := 3) h 17 18 dL_law_17 rfl rfl (by decide) (so3 rfl) ?_
  refine v_bipush (v := nI 32) h 18 20 dL_law_18 rfl (by decide) ?_
  refine v_newI (N := 32) h 20 22 dL_law_20 rfl (nI_pos (by omega)) (nI_clamp (by omega)) (by omega) aI ⟨by decide, by decide⟩ ?_
  refine v_astore (i := 4) h 22 24 dL_law_22 rfl (by decide) (so4 rfl) ?_
  refine v_bipush (v := nI 14) h 24 26 dL_law_24 rfl (by decide) ?_
  refine v_newI (N := 14) h 26 28 dL_law_26 rfl (nI_pos (by omega)) (nI_clamp (by omega)) (by omega) aI ⟨by decide, by decide⟩ ?_
  refine v_astore (i := 5) h 28 30 dL_law_28 rfl (by decide) (so5 rfl) ?_
  refine V.nx (k' := 145) (n' := 1392) (w' := lw E (D + 141) (fun _ => 0) (dl E D (rstS (fun _ => 0) 3) (fun _ => 0) (fun _ _ => 0) (nI 0) (nI 0) 0 (fun _ => 0) (D + 145, wb))) (by decide) (by decide) (new4.trans rfl) ?_
  refine V.weakT (L' := [some (.ref b), some (.ref D), some (.ref (D + 141)), some (.ref (D + 141 + 1)), some (.ref (D + 141 + 2)), some (.ref (D + 141 + 3)), none, none, none]) ?_ (And.intro rfl (And.intro rfl (And.intro rfl (And.intro rfl (And.intro rfl (And.intro rfl trivial))))))
  refine v_aload_n (i := 2) h 30 31 dL_law_30 rfl rfl ld2 ?_
  refine v_callS0 h 31 34 dL_law_31 rfl cb_L_begins cs_L_begins lk_L_141 (rok (by decide) (by decide)) ⟨rfl, rfl⟩ ⟨by decide, by decide⟩ k_begins rfl rfl (Nat.le_of_ble_eq_true rfl) ?_
  refine v_aload_n (i := 1) h 34 35 dL_law_34 rfl rfl ld1 ?_
  refine v_aload_n (i := 2) h 35 36 dL_law_35 rfl rfl ld2 ?_
  refine v_aload_n (i := 3) h 36 37 dL_law_36 rfl rfl ld3 ?_
  refine v_aload (i := 4) h 37 39 dL_law_37 rfl ld4 ?_
  refine v_aload (i := 5) h 39 41 dL_law_39 rfl ld5 ?_
  refine v_callS1z h hZ 41 44 dL_law_41 rfl cb_L_isSo cs_L_isSo lk_L_145 (rok (by decide) (by decide)) ⟨by decide, by decide⟩ (k_isSo hE rl_0) rfl rfl (Nat.le_of_ble_eq_true rfl) (fun n41 hn41 => ?_)
  refine V.nx (k' := 200) (n' := 2000) (w' := lw E (D + 141) (rstS (fun _ => 0) 3) (dl E D (rstS (fun _ => 0) 3) (fun _ => 0) (fun _ _ => 0) (nI 0) (nI 0) 0 (fun _ => 0) (n41, wb))) (by decide) (by decide) rfl ?_
  refine v_istore (i := 6) h 44 46 dL_law_44 rfl (by decide) (so6 rfl) ?_
  refine v_iconst (v := 0) h 46 47 dL_law_46 rfl (by decide) ?_
  refine v_istore (i := 7) h 47 49 dL_law_47 rfl (by decide) (so7 rfl) ?_
  exact V.weakT (law_body h hZ hX hL hE hN2 (rstS (fun _ => 0) 3) (fun _ => 0) (fun _ _ => 0) 0 0 (rstS (fun _ => 0) 3) 0 0 0 0 n41 rl_0) (And.intro rfl (And.intro rfl (And.intro rfl (And.intro rfl (And.intro rfl (And.intro rfl (And.intro rfl (And.intro rfl trivial))))))))

