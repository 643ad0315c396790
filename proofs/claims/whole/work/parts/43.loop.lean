/-! THE LAW'S LOOP -/
set_option maxRecDepth 100000 in
set_option maxHeartbeats 4000000 in
theorem law_loop {E : EE} {Γ : Cx} {b D N : Nat} {xs : Nat → Int32} {w0 : Nat → Option va_E} (h : OkB E Γ mLaw RL) (hZ : ZG E Γ) (hX : XG E Γ b N xs) (hL : LG E Γ b) (hE : E.1.stackTraces = false) (hN : N ≤ 2560) : ∀ (f i k n : Nat), (N + 5 ≤ i + 5 * f ∧ i < 2 ^ 30) → k + f ≤ 601024 → n + 6 * f ≤ 7293034 → GoOn E Γ b D i k n 23 w0 := by
  intro f
  induction f with
  | zero =>
    intro i k n hf hk hn d r t nh g hR
    have hN30 : N < 2 ^ 30 := by omega
    unfold lLo
    refine v_iload (i := 4) h 23 25 dL_law_23 rfl ld4 ?_
    refine v_aload_n (i := 0) h 25 26 dL_law_25 rfl rfl ld0 ?_
    refine v_slen h hX 26 27 dL_law_26 rfl ?_
    refine v_iconst (v := 5) h 27 28 dL_law_27 rfl (by decide) ?_
    refine v_isub h 28 29 dL_law_28 rfl ?_
    refine v_icmp_gt h 29 32 1290 dL_law_29 rfl (by decide) (fun _ => ?_) (fun h29 => ?_)
    · refine v_iconst (v := 1) h 1290 1291 dL_law_1290 rfl (by decide) ?_
      exact v_law1 h hL 1291 (by omega) (by omega) dL_law_1291
    · have := nle5 hN30 hf.2 h29
      omega
  | succ f ih =>
    intro i k n hf hk hn d r t nh g hR
    have hN30 : N < 2 ^ 30 := by omega
    unfold lLo
    refine v_iload (i := 4) h 23 25 dL_law_23 rfl ld4 ?_
    refine v_aload_n (i := 0) h 25 26 dL_law_25 rfl rfl ld0 ?_
    refine v_slen h hX 26 27 dL_law_26 rfl ?_
    refine v_iconst (v := 5) h 27 28 dL_law_27 rfl (by decide) ?_
    refine v_isub h 28 29 dL_law_28 rfl ?_
    refine v_icmp_gt h 29 32 1290 dL_law_29 rfl (by decide) (fun _ => ?_) (fun h29 => ?_)
    · refine v_iconst (v := 1) h 1290 1291 dL_law_1290 rfl (by decide) ?_
      exact v_law1 h hL 1291 (by omega) (by omega) dL_law_1291
    · have hi := nle5 hN30 hf.2 h29
      have nx : GoOn E Γ b D i (k + 1) (n + 6) 1284 w0 := by
        intro d r t nh g hR
        unfold lLo
        refine v_iinc (i := 4) h 1284 1287 dL_law_1284 rfl ld4 (show nI i + Int32.ofInt 5 = nI (i + 5) from nI_add i 5) (by decide) (so4 rfl) ?_
        refine v_goto h 1287 23 dL_law_1287 (by decide) ?_
        exact ih (i + 5) (k + 1) (n + 6) (by omega) (by omega) (by omega) d r t nh g hR
      refine v_aload_n (i := 0) h 32 33 dL_law_32 rfl rfl ld0 ?_
      refine v_iload (i := 4) h 33 35 dL_law_33 rfl ld4 ?_
      refine v_sld h hX 35 36 (i := i) (by omega) (by omega) dL_law_35 rfl ?_
      refine v_bipush (v := 31) h 36 38 dL_law_36 rfl (by decide) ?_
      refine v_iand h 38 39 dL_law_38 rfl ?_
      have hk2 : k + 1 ≤ 601024 ∧ n + 6 ≤ 7293034 := ⟨by omega, by omega⟩
      by_cases y1 : xs i &&& 31 < 0 ∨ 22 < xs i &&& 31
      · refine v_tableOut h 39 1284 dL_law_39 (y1.imp (fun q => (Int32.lt_iff_toInt_lt (x := xs i &&& 31) (y := 0)).mp q) (fun q => (Int32.lt_iff_toInt_lt (x := 22) (y := xs i &&& 31)).mp q)) (by decide) ?_
        exact V.widen (k' := k + 1) (n' := n + 6) (by omega) (by omega) (nx d r t nh g hR)
      · obtain ⟨c, hc1, hc2, hc⟩ := rng (a := 0) (b := 22) (by decide) (by decide) (fun q => y1 (Or.inl q)) (fun q => y1 (Or.inr q))
        rw [hc]
        rcases (show c = 0 ∨ c = 1 ∨ c = 2 ∨ c = 3 ∨ c = 4 ∨ c = 5 ∨ c = 6 ∨ c = 7 ∨ c = 8 ∨ c = 9 ∨ c = 10 ∨ c = 11 ∨ c = 12 ∨ c = 13 ∨ c = 14 ∨ c = 15 ∨ c = 16 ∨ c = 17 ∨ c = 18 ∨ c = 19 ∨ c = 20 ∨ c = 21 ∨ c = 22 by omega) with rfl | rfl | rfl | rfl | rfl | rfl | rfl | rfl | rfl | rfl | rfl | rfl | rfl | rfl | rfl | rfl | rfl | rfl | rfl | rfl | rfl | rfl | rfl
        · refine v_tableIn h 39 144 dL_law_39 (by decide) (by decide) (off := 105) (by decide) (by decide) ?_
          exact b_addChair h hZ hX hE (by omega) hi hk2 nx d r t nh g hR
        · refine v_tableIn h 39 252 dL_law_39 (by decide) (by decide) (off := 213) (by decide) (by decide) ?_
          exact b_addTeam h hZ hX hE (by omega) hi hk2 nx d r t nh g hR
        · refine v_tableIn h 39 320 dL_law_39 (by decide) (by decide) (off := 281) (by decide) (by decide) ?_
          exact b_setWay h hZ hX hE (by omega) hi hk2 nx d r t nh g hR
        · refine v_tableIn h 39 388 dL_law_39 (by decide) (by decide) (off := 349) (by decide) (by decide) ?_
          exact b_setCold h hZ hX hE (by omega) hi hk2 nx d r t nh g hR
        · refine v_tableIn h 39 456 dL_law_39 (by decide) (by decide) (off := 417) (by decide) (by decide) ?_
          exact b_callOff h hZ hX hE (by omega) hi hk2 nx d r t nh g hR
        · refine v_tableIn h 39 512 dL_law_39 (by decide) (by decide) (off := 473) (by decide) (by decide) ?_
          exact b_pass h hZ hX hE (by omega) hi hk2 nx d r t nh g hR
        · refine v_tableIn h 39 568 dL_law_39 (by decide) (by decide) (off := 529) (by decide) (by decide) ?_
          exact b_tell h hZ hX hE (by omega) hi hk2 nx d r t nh g hR
        · refine v_tableIn h 39 581 dL_law_39 (by decide) (by decide) (off := 542) (by decide) (by decide) ?_
          exact b_chair h hZ hX hE (by omega) hi hk2 nx d r t nh g hR
        · refine v_tableIn h 39 649 dL_law_39 (by decide) (by decide) (off := 610) (by decide) (by decide) ?_
          exact b_team h hZ hX hE (by omega) hi hk2 nx d r t nh g hR
        · refine v_tableIn h 39 717 dL_law_39 (by decide) (by decide) (off := 678) (by decide) (by decide) ?_
          exact b_value h hZ hX hE (by omega) hi hk2 nx d r t nh g hR
        · refine v_tableIn h 39 773 dL_law_39 (by decide) (by decide) (off := 734) (by decide) (by decide) ?_
          exact b_way h hZ hX hE (by omega) hi hk2 nx d r t nh g hR
        · refine v_tableIn h 39 841 dL_law_39 (by decide) (by decide) (off := 802) (by decide) (by decide) ?_
          exact b_work h hZ hX hE (by omega) hi hk2 nx d r t nh g hR
        · refine v_tableIn h 39 909 dL_law_39 (by decide) (by decide) (off := 870) (by decide) (by decide) ?_
          exact b_journal h hZ hX hE (by omega) hi hk2 nx d r t nh g hR
        · refine v_tableIn h 39 965 dL_law_39 (by decide) (by decide) (off := 926) (by decide) (by decide) ?_
          exact b_minuteOf h hZ hX hE (by omega) hi hk2 nx d r t nh g hR
        · refine v_tableIn h 39 1021 dL_law_39 (by decide) (by decide) (off := 982) (by decide) (by decide) ?_
          exact b_minutesToAll h hZ hX hE (by omega) hi hk2 nx d r t nh g hR
        · refine v_tableIn h 39 1034 dL_law_39 (by decide) (by decide) (off := 995) (by decide) (by decide) ?_
          exact b_bestSpan h hZ hX hE (by omega) hi hk2 nx d r t nh g hR
        · refine v_tableIn h 39 1047 dL_law_39 (by decide) (by decide) (off := 1008) (by decide) (by decide) ?_
          exact b_chosen h hZ hX hE (by omega) hi hk2 nx d r t nh g hR
        · refine v_tableIn h 39 1103 dL_law_39 (by decide) (by decide) (off := 1064) (by decide) (by decide) ?_
          exact b_meanCold h hZ hX hE (by omega) hi hk2 nx d r t nh g hR
        · refine v_tableIn h 39 1144 dL_law_39 (by decide) (by decide) (off := 1105) (by decide) (by decide) ?_
          exact b_append h hZ hX hE (by omega) hi hk2 nx d r t nh g hR
        · refine v_tableIn h 39 1200 dL_law_39 (by decide) (by decide) (off := 1161) (by decide) (by decide) ?_
          exact b_clearText h hZ hX hE (by omega) hi hk2 nx d r t nh g hR
        · refine v_tableIn h 39 1213 dL_law_39 (by decide) (by decide) (off := 1174) (by decide) (by decide) ?_
          exact b_parse h hZ hX hE (by omega) hi hk2 nx d r t nh g hR
        · refine v_tableIn h 39 1226 dL_law_39 (by decide) (by decide) (off := 1187) (by decide) (by decide) ?_
          exact b_undo h hZ hX hE (by omega) hi hk2 nx d r t nh g hR
        · refine v_tableIn h 39 1270 dL_law_39 (by decide) (by decide) (off := 1231) (by decide) (by decide) ?_
          exact b_digest h hZ hX hE (by omega) hi hk2 nx d r t nh g hR
