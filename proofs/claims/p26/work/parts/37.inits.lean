/-! THE CONSTRUCTORS OF CHAIR, TEAM, LINE -/
theorem ol_X0 : Cond.methodLink RX0 3 objectInit ∈ Tg := tg 35 (by decide +kernel) (by decide +kernel)
theorem ol_X2 : Cond.methodLink RX2 3 objectInit ∈ Tg := tg 79 (by decide +kernel) (by decide +kernel)
theorem ol_X1 : Cond.methodLink RX1 3 objectInit ∈ Tg := tg 28 (by decide +kernel) (by decide +kernel)
theorem ol_X3 : Cond.methodLink RX3 1 objectInit ∈ Tg := tg 20 (by decide +kernel) (by decide +kernel)
theorem oi_o : Cond.instanceMethod objectInit ∈ Tg := tg 21 (by decide +kernel) (by decide +kernel)
theorem oc_o : Cond.code objectInit ⟨#[0xb1]⟩ 1 none ∈ Tg := by decide +kernel
theorem aI : Cond.arrayClass .int ∈ Tg := tg 72 (by decide +kernel) (by decide +kernel)
theorem ck15 : Cond.classLink RX1 15 RX0 ∈ Tg := tg 29 (by decide +kernel) (by decide +kernel)
theorem ck22 : Cond.classLink RX1 22 RX2 ∈ Tg := tg 73 (by decide +kernel) (by decide +kernel)
theorem ck7 : Cond.classLink RX3 7 RX1 ∈ Tg := tg 23 (by decide +kernel) (by decide +kernel)
theorem ckD : Cond.classLink RL 57 RX3 ∈ Tg := tg 15 (by decide +kernel) (by decide +kernel)
theorem in_X0 : Cond.instantiable RX0 8 ∈ Tg := tg 31 (by decide +kernel) (by decide +kernel)
theorem ii_X0 : Cond.initialized RX0 ∈ Tg := tg 6 (by decide +kernel) (by decide +kernel)
theorem im_X0 : Cond.instanceMethod (mY mX0_init) ∈ Tg := tg 33 (by decide +kernel) (by decide +kernel)
theorem in_X2 : Cond.instantiable RX2 8 ∈ Tg := tg 75 (by decide +kernel) (by decide +kernel)
theorem ii_X2 : Cond.initialized RX2 ∈ Tg := tg 7 (by decide +kernel) (by decide +kernel)
theorem im_X2 : Cond.instanceMethod (mY mX2_init) ∈ Tg := tg 77 (by decide +kernel) (by decide +kernel)
theorem in_X1 : Cond.instantiable RX1 11 ∈ Tg := tg 24 (by decide +kernel) (by decide +kernel)
theorem ii_X1 : Cond.initialized RX1 ∈ Tg := tg 5 (by decide +kernel) (by decide +kernel)
theorem im_X1 : Cond.instanceMethod (mY mX1_init) ∈ Tg := tg 26 (by decide +kernel) (by decide +kernel)
theorem in_X3 : Cond.instantiable RX3 7 ∈ Tg := tg 16 (by decide +kernel) (by decide +kernel)
theorem ii_X3 : Cond.initialized RX3 ∈ Tg := tg 4 (by decide +kernel) (by decide +kernel)
theorem im_X3 : Cond.instanceMethod (mY mX3_init) ∈ Tg := tg 18 (by decide +kernel) (by decide +kernel)
theorem k_X0init {E : EE} {w : Wo} {b : Nat} : Cd E mX0_init w [.ref b] none w := by
  refine Cd.of RX0 rfl (by decide) [some (.ref b)] (Nat.le_of_ble_eq_true rfl) rfl (fun Γ h f hmn => ?_)
  refine v_aload_n (i := 0) h 0 1 dX0_init_0 rfl rfl ld0 ?_
  refine v_obj h 1 4 dX0_init_1 rfl ol_X0 oi_o oc_o ⟨by decide, by decide⟩ (Nat.le_of_ble_eq_true rfl) ?_
  exact v_ret h 4 f dX0_init_4 rfl (Nat.zero_le _) (Nat.zero_le _) rfl rfl
theorem k_X2init {E : EE} {w : Wo} {b : Nat} : Cd E mX2_init w [.ref b] none w := by
  refine Cd.of RX2 rfl (by decide) [some (.ref b)] (Nat.le_of_ble_eq_true rfl) rfl (fun Γ h f hmn => ?_)
  refine v_aload_n (i := 0) h 0 1 dX2_init_0 rfl rfl ld0 ?_
  refine v_obj h 1 4 dX2_init_1 rfl ol_X2 oi_o oc_o ⟨by decide, by decide⟩ (Nat.le_of_ble_eq_true rfl) ?_
  exact v_ret h 4 f dX2_init_4 rfl (Nat.zero_le _) (Nat.zero_le _) rfl rfl
set_option maxRecDepth 100000 in
set_option maxHeartbeats 4000000 in
theorem k_X1init {E : EE} {B : Nat} {wb : Nat → Option va_E} : Cc E mX1_init (wN E B 0 1 0 0 wb) [.ref B] (pl E B (fun _ => 0) (B + 23, wb)) := by
  refine Cc.of RX1 rfl (by decide) [some (.ref B), none] (Nat.le_of_ble_eq_true rfl) rfl (fun Γ h hC f hmn => ?_)
  have t89 : ∀ i1, V E Γ 21 168 89 [some (.ref B), i1] [] (wN E B 3 22 14 4 wb) := by
    intro i1
    refine v_aload_n (i := 0) h 89 90 dX1_init_89 rfl rfl ld0 ?_
    refine v_bipush (v := nI 14) h 90 92 dX1_init_90 rfl (by decide) ?_
    refine v_newI (N := 14) h 92 94 dX1_init_92 rfl (nI_pos (by omega)) (nI_clamp (by omega)) (by omega) aI ⟨by decide, by decide⟩ ?_
    refine V.world (w' := wN E B 3 (22 + 1) 14 4 wb) (wN_new rfl) ?_
    refine v_putF h rfl hmn 94 97 dX1_init_94 rfl ff_X1_29 (wN_at (x := 0) (by omega)) rfl rfl (by show _ < 11; omega) ?_
    refine V.world (w' := wN E B 4 23 14 4 wb) (wN_f (c' := 4) (by omega)) ?_
    refine V.conv (wN_pl wb) ?_
    exact v_ret h 97 f dX1_init_97 rfl (by decide) (by decide) rfl rfl
  have t51 : ∀ i1, V E Γ 16 132 51 [some (.ref B), i1] [] (wN E B 2 17 14 0 wb) := by
    intro i1
    refine v_aload_n (i := 0) h 51 52 dX1_init_51 rfl rfl ld0 ?_
    refine v_iconst (v := nI 4) h 52 53 dX1_init_52 rfl (by decide) ?_
    refine v_anew (N := 4) (t0 := 3) (cB := (gTm E)) (C := RX2) h 53 56 (by rfl) dX1_init_53 rfl (nI_pos (by omega)) (nI_clamp (by omega)) (by omega) ck22 (by obtain ⟨p, e, R, s, m, args, below, meth, c, Q⟩ := Γ; exact hC.1.2.1) ⟨by decide, by decide⟩ ?_
    refine V.world (w' := wN E B 2 (17 + 1) 14 0 wb) (wN_new (by show _ = _; rw [← row_0 (B := B + 18)]; rfl)) ?_
    refine v_putF h rfl hmn 56 59 dX1_init_56 rfl ff_X1_24 (wN_at (x := 0) (by omega)) rfl rfl (by show _ < 11; omega) ?_
    refine V.world (w' := wN E B 3 18 14 0 wb) (wN_f (c' := 3) (by omega)) ?_
    refine v_iconst (v := 0) h 59 60 dX1_init_59 rfl (by decide) ?_
    refine v_istore_n (i := 1) h 60 61 dX1_init_60 rfl rfl (by decide) (so1 rfl) ?_
    have loop61 : ∀ dd j, j + dd = 4 → V E Γ (17 + j) (136 + 8 * j) 61 [some (.ref B), some (.int (nI j))] [] (wN E B 3 (18 + j) 14 j wb) := by
      intro dd
      induction dd with
      | zero =>
        intro j hj
        obtain rfl : j = 4 := by omega
        refine v_iload_n (i := 1) h 61 62 dX1_init_61 rfl rfl ld1 ?_
        refine v_aload_n (i := 0) h 62 63 dX1_init_62 rfl rfl ld0 ?_
        refine v_get h 63 66 dX1_init_63 rfl fo_X1_24 (wN_at (x := 0) (by omega)) rfl ?_
        refine v_alen h 66 67 3 dX1_init_66 rfl (wN_at (x := 17) (by omega)) rfl (v := nI 4) rfl ?_
        refine v_icmp_ge h 67 70 89 dX1_init_67 rfl (by decide) (fun hh => ?_) (fun hh => absurd (nI_le (Nat.le_refl _) (by omega)) hh)
        exact t89 _
      | succ dd ih =>
        intro j hj
        refine v_iload_n (i := 1) h 61 62 dX1_init_61 rfl rfl ld1 ?_
        refine v_aload_n (i := 0) h 62 63 dX1_init_62 rfl rfl ld0 ?_
        refine v_get h 63 66 dX1_init_63 rfl fo_X1_24 (wN_at (x := 0) (by omega)) rfl ?_
        refine v_alen h 66 67 3 dX1_init_66 rfl (wN_at (x := 17) (by omega)) rfl (v := nI 4) rfl ?_
        refine v_icmp_ge h 67 70 89 dX1_init_67 rfl (by decide) (fun hh => absurd hh (nI_ge (by omega) (by omega))) (fun hh => ?_)
        refine v_aload_n (i := 0) h 70 71 dX1_init_70 rfl rfl ld0 ?_
        refine v_get h 71 74 dX1_init_71 rfl fo_X1_24 (wN_at (x := 0) (by omega)) rfl ?_
        refine v_iload_n (i := 1) h 74 75 dX1_init_74 rfl rfl ld1 ?_
        refine v_new (ci := 2) (fs := z8) h 75 78 tyX2 tyX2_ok igX2 ck22 in_X2 ii_X2 rfl (by decide) dX1_init_75 rfl ⟨by show _ ≤ 22; omega, by show _ ≤ 182; omega⟩ ?_
        refine V.world (w' := wN E B 3 (18 + j + 1) 14 j wb) (wN_new (by unfold cN; rw [if_neg (by omega), if_neg (by omega), if_neg (by omega), if_neg (by omega), if_neg (by omega), if_pos (by omega)])) ?_
        refine v_dup h 78 79 dX1_init_78 rfl rfl ?_
        refine v_initN (host := "LiftDrill") h 79 82 dX1_init_79 rfl cb_X2_init rfl im_X2 ii_X2 (by obtain ⟨p, e, R, s, m, args, below, meth, c, Q⟩ := Γ; exact hC.2.2) (rok (by decide) (by decide)) ⟨rfl, rfl⟩ ⟨by show _ ≤ 22; omega, by show _ ≤ 182; omega⟩ rfl k_X2init (Nat.le_of_ble_eq_true rfl) ?_
        refine v_aast (vs := z8) (N := 4) (f := rowN (B + 18) j) (cA := gTm E) (t0 := 3) (ci := 2) h 82 83 dX1_init_82 rfl (wN_at (o := 18 + j + 1) (x := 17) (by omega)) rfl ((wN_at (E := E) (B := B) (c := 3) (o := 18 + j + 1) (j := 14) (u := j) (wb := wb) (x := 18 + j) (by omega)).trans (congrArg some (by unfold cN; rw [if_neg (by omega), if_neg (by omega), if_neg (by omega), if_neg (by omega), if_neg (by omega), if_pos (by omega)]))) rfl (vp_in_nI (n := j) (by omega) (by decide)) ?_
        rw [nI_clamp (by omega)]
        refine V.world (w' := wN E B 3 (18 + j + 1) 14 (j + 1) wb) (by rw [show (wN E B 3 (18 + j) 14 j wb).1 = B + 18 + j from by show B + (18 + j) = _; omega, row_up]; exact wN_t (by omega)) ?_
        refine v_iinc (i := 1) h 83 86 dX1_init_83 rfl ld1 (by first | exact iinc1 _ | rfl) (by decide) (so1 rfl) ?_
        refine v_goto h 86 61 dX1_init_86 (by decide) ?_
        exact V.widen (by omega) (by omega) (ih (j + 1) (by omega))
    exact V.weakT (loop61 4 0 (by omega)) (And.intro rfl (And.intro rfl trivial))
  refine v_aload_n (i := 0) h 0 1 dX1_init_0 rfl rfl ld0 ?_
  refine v_obj h 1 4 dX1_init_1 rfl ol_X1 oi_o oc_o ⟨by decide, by decide⟩ (Nat.le_of_ble_eq_true rfl) ?_
  refine v_aload_n (i := 0) h 4 5 dX1_init_4 rfl rfl ld0 ?_
  refine v_bipush (v := nI 6) h 5 7 dX1_init_5 rfl (by decide) ?_
  refine v_newI (N := 6) h 7 9 dX1_init_7 rfl (nI_pos (by omega)) (nI_clamp (by omega)) (by omega) aI ⟨by decide, by decide⟩ ?_
  refine V.world (w' := wN E B 0 (1 + 1) 0 0 wb) (wN_new rfl) ?_
  refine v_putF h rfl hmn 9 12 dX1_init_9 rfl ff_X1_9 (wN_at (x := 0) (by omega)) rfl rfl (by show _ < 11; omega) ?_
  refine V.world (w' := wN E B 1 2 0 0 wb) (wN_f (c' := 1) (by omega)) ?_
  refine v_aload_n (i := 0) h 12 13 dX1_init_12 rfl rfl ld0 ?_
  refine v_bipush (v := nI 14) h 13 15 dX1_init_13 rfl (by decide) ?_
  refine v_anew (N := 14) (t0 := 2) (cB := (gCh E)) (C := RX0) h 15 18 (by rfl) dX1_init_15 rfl (nI_pos (by omega)) (nI_clamp (by omega)) (by omega) ck15 (by obtain ⟨p, e, R, s, m, args, below, meth, c, Q⟩ := Γ; exact hC.1.1) ⟨by decide, by decide⟩ ?_
  refine V.world (w' := wN E B 1 (2 + 1) 0 0 wb) (wN_new (by show _ = _; rw [← row_0 (B := B + 3)]; rfl)) ?_
  refine v_putF h rfl hmn 18 21 dX1_init_18 rfl ff_X1_17 (wN_at (x := 0) (by omega)) rfl rfl (by show _ < 11; omega) ?_
  refine V.world (w' := wN E B 2 3 0 0 wb) (wN_f (c' := 2) (by omega)) ?_
  refine v_iconst (v := 0) h 21 22 dX1_init_21 rfl (by decide) ?_
  refine v_istore_n (i := 1) h 22 23 dX1_init_22 rfl rfl (by decide) (so1 rfl) ?_
  have loop23 : ∀ dd j, j + dd = 14 → V E Γ (2 + j) (20 + 8 * j) 23 [some (.ref B), some (.int (nI j))] [] (wN E B 2 (3 + j) j 0 wb) := by
    intro dd
    induction dd with
    | zero =>
      intro j hj
      obtain rfl : j = 14 := by omega
      refine v_iload_n (i := 1) h 23 24 dX1_init_23 rfl rfl ld1 ?_
      refine v_aload_n (i := 0) h 24 25 dX1_init_24 rfl rfl ld0 ?_
      refine v_get h 25 28 dX1_init_25 rfl fo_X1_17 (wN_at (x := 0) (by omega)) rfl ?_
      refine v_alen h 28 29 2 dX1_init_28 rfl (wN_at (x := 2) (by omega)) rfl (v := nI 14) rfl ?_
      refine v_icmp_ge h 29 32 51 dX1_init_29 rfl (by decide) (fun hh => ?_) (fun hh => absurd (nI_le (Nat.le_refl _) (by omega)) hh)
      exact t51 _
    | succ dd ih =>
      intro j hj
      refine v_iload_n (i := 1) h 23 24 dX1_init_23 rfl rfl ld1 ?_
      refine v_aload_n (i := 0) h 24 25 dX1_init_24 rfl rfl ld0 ?_
      refine v_get h 25 28 dX1_init_25 rfl fo_X1_17 (wN_at (x := 0) (by omega)) rfl ?_
      refine v_alen h 28 29 2 dX1_init_28 rfl (wN_at (x := 2) (by omega)) rfl (v := nI 14) rfl ?_
      refine v_icmp_ge h 29 32 51 dX1_init_29 rfl (by decide) (fun hh => absurd hh (nI_ge (by omega) (by omega))) (fun hh => ?_)
      refine v_aload_n (i := 0) h 32 33 dX1_init_32 rfl rfl ld0 ?_
      refine v_get h 33 36 dX1_init_33 rfl fo_X1_17 (wN_at (x := 0) (by omega)) rfl ?_
      refine v_iload_n (i := 1) h 36 37 dX1_init_36 rfl rfl ld1 ?_
      refine v_new (ci := 0) (fs := z8) h 37 40 tyX0 tyX0_ok igX0 ck15 in_X0 ii_X0 rfl (by decide) dX1_init_37 rfl ⟨by show _ ≤ 22; omega, by show _ ≤ 182; omega⟩ ?_
      refine V.world (w' := wN E B 2 (3 + j + 1) j 0 wb) (wN_new (by unfold cN; rw [if_neg (by omega), if_neg (by omega), if_neg (by omega), if_pos (by omega)])) ?_
      refine v_dup h 40 41 dX1_init_40 rfl rfl ?_
      refine v_initN (host := "LiftDrill") h 41 44 dX1_init_41 rfl cb_X0_init rfl im_X0 ii_X0 (by obtain ⟨p, e, R, s, m, args, below, meth, c, Q⟩ := Γ; exact hC.2.1) (rok (by decide) (by decide)) ⟨rfl, rfl⟩ ⟨by show _ ≤ 22; omega, by show _ ≤ 182; omega⟩ rfl k_X0init (Nat.le_of_ble_eq_true rfl) ?_
      refine v_aast (vs := z8) (N := 14) (f := rowN (B + 3) j) (cA := gCh E) (t0 := 2) (ci := 0) h 44 45 dX1_init_44 rfl (wN_at (o := 3 + j + 1) (x := 2) (by omega)) rfl ((wN_at (E := E) (B := B) (c := 2) (o := 3 + j + 1) (j := j) (u := 0) (wb := wb) (x := 3 + j) (by omega)).trans (congrArg some (by unfold cN; rw [if_neg (by omega), if_neg (by omega), if_neg (by omega), if_pos (by omega)]))) rfl (vp_in_nI (n := j) (by omega) (by decide)) ?_
      rw [nI_clamp (by omega)]
      refine V.world (w' := wN E B 2 (3 + j + 1) (j + 1) 0 wb) (by rw [show (wN E B 2 (3 + j) j 0 wb).1 = B + 3 + j from by show B + (3 + j) = _; omega, row_up]; exact wN_c (by omega)) ?_
      refine v_iinc (i := 1) h 45 48 dX1_init_45 rfl ld1 (by first | exact iinc1 _ | rfl) (by decide) (so1 rfl) ?_
      refine v_goto h 48 23 dX1_init_48 (by decide) ?_
      exact V.widen (by omega) (by omega) (ih (j + 1) (by omega))
  exact V.weakT (loop23 14 0 (by omega)) (And.intro rfl (And.intro rfl trivial))
