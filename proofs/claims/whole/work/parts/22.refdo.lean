/-! WHAT CAN BE DONE IN THE REFERENCE, outcome by outcome -/
set_option maxRecDepth 100000 in
set_option maxHeartbeats 4000000 in
theorem k_addsChair {E : EE} {D : Nat} {S : St} {Ps : Nat → St} {A K T N I : St} {hh : Int64} {w : Wo} {nc : Nat} (e7 : S 7 = nI nc) (hm : nc < 14) (sp ri co ch : Int32) : Cd E mX4_addsChair (ml E D S Ps A K T N I hh w) [.ref D, .int sp, .int ri, .int co, .int ch] (none) (ml E D (hangS (upd S 7 (nI (nc + 1))) nc sp ri co ch) Ps A K T N I hh w) := by
  refine Cd.of RX4 rfl (by decide) [some (.ref D), some (.int sp), some (.int ri), some (.int co), some (.int ch), none] (Nat.le_of_ble_eq_true rfl) rfl (fun Γ h f hmn => ?_)
  refine v_aload_n (i := 0) h 0 1 dX4_addsChair_0 rfl rfl ld0 ?_
  refine v_get h 1 4 dX4_addsChair_1 rfl fo_X4_7 ml_ob rfl ?_
  refine v_bipush (v := nI 7) h 4 6 dX4_addsChair_4 rfl (by decide) ?_
  refine v_ildSm h 6 7 _ dX4_addsChair_6 rfl (by omega) ?_
  rw [e7]
  refine v_istore (i := 5) h 7 9 dX4_addsChair_7 rfl (by decide) (so5 rfl) ?_
  refine v_aload_n (i := 0) h 9 10 dX4_addsChair_9 rfl rfl ld0 ?_
  refine v_iload (i := 5) h 10 12 dX4_addsChair_10 rfl ld5 ?_
  refine v_iconst (v := 0) h 12 13 dX4_addsChair_12 rfl (by decide) ?_
  refine v_iload_n (i := 1) h 13 14 dX4_addsChair_13 rfl rfl ld1 ?_
  refine v_callV0 h 14 17 dX4_addsChair_14 rfl cb_X4_puts cv_X4_puts ml_ob lk_X4_60 (rok (by decide) (by decide)) ⟨rfl, rfl⟩ ⟨Nat.zero_le _, Nat.zero_le _⟩ (k_puts (c := nc) (k := 0) (by omega) (by decide) _) rfl rfl (Nat.le_of_ble_eq_true rfl) ?_
  refine v_aload_n (i := 0) h 17 18 dX4_addsChair_17 rfl rfl ld0 ?_
  refine v_iload (i := 5) h 18 20 dX4_addsChair_18 rfl ld5 ?_
  refine v_iconst (v := 1) h 20 21 dX4_addsChair_20 rfl (by decide) ?_
  refine v_iload_n (i := 2) h 21 22 dX4_addsChair_21 rfl rfl ld2 ?_
  refine v_callV0 h 22 25 dX4_addsChair_22 rfl cb_X4_puts cv_X4_puts ml_ob lk_X4_60 (rok (by decide) (by decide)) ⟨rfl, rfl⟩ ⟨Nat.zero_le _, Nat.zero_le _⟩ (k_puts (c := nc) (k := 1) (by omega) (by decide) _) rfl rfl (Nat.le_of_ble_eq_true rfl) ?_
  refine v_aload_n (i := 0) h 25 26 dX4_addsChair_25 rfl rfl ld0 ?_
  refine v_iload (i := 5) h 26 28 dX4_addsChair_26 rfl ld5 ?_
  refine v_iconst (v := 2) h 28 29 dX4_addsChair_28 rfl (by decide) ?_
  refine v_iload_n (i := 3) h 29 30 dX4_addsChair_29 rfl rfl ld3 ?_
  refine v_callV0 h 30 33 dX4_addsChair_30 rfl cb_X4_puts cv_X4_puts ml_ob lk_X4_60 (rok (by decide) (by decide)) ⟨rfl, rfl⟩ ⟨Nat.zero_le _, Nat.zero_le _⟩ (k_puts (c := nc) (k := 2) (by omega) (by decide) _) rfl rfl (Nat.le_of_ble_eq_true rfl) ?_
  refine v_aload_n (i := 0) h 33 34 dX4_addsChair_33 rfl rfl ld0 ?_
  refine v_iload (i := 5) h 34 36 dX4_addsChair_34 rfl ld5 ?_
  refine v_iconst (v := 3) h 36 37 dX4_addsChair_36 rfl (by decide) ?_
  refine v_iload (i := 4) h 37 39 dX4_addsChair_37 rfl ld4 ?_
  refine v_callV0 h 39 42 dX4_addsChair_39 rfl cb_X4_puts cv_X4_puts ml_ob lk_X4_60 (rok (by decide) (by decide)) ⟨rfl, rfl⟩ ⟨Nat.zero_le _, Nat.zero_le _⟩ (k_puts (c := nc) (k := 3) (by omega) (by decide) _) rfl rfl (Nat.le_of_ble_eq_true rfl) ?_
  refine v_aload_n (i := 0) h 42 43 dX4_addsChair_42 rfl rfl ld0 ?_
  refine v_iload (i := 5) h 43 45 dX4_addsChair_43 rfl ld5 ?_
  refine v_iconst (v := 4) h 45 46 dX4_addsChair_45 rfl (by decide) ?_
  refine v_iconst (v := 0) h 46 47 dX4_addsChair_46 rfl (by decide) ?_
  refine v_callV0 h 47 50 dX4_addsChair_47 rfl cb_X4_puts cv_X4_puts ml_ob lk_X4_60 (rok (by decide) (by decide)) ⟨rfl, rfl⟩ ⟨Nat.zero_le _, Nat.zero_le _⟩ (k_puts (c := nc) (k := 4) (by omega) (by decide) _) rfl rfl (Nat.le_of_ble_eq_true rfl) ?_
  refine v_aload_n (i := 0) h 50 51 dX4_addsChair_50 rfl rfl ld0 ?_
  refine v_iload (i := 5) h 51 53 dX4_addsChair_51 rfl ld5 ?_
  refine v_iconst (v := 5) h 53 54 dX4_addsChair_53 rfl (by decide) ?_
  refine v_iconst (v := (-1)) h 54 55 dX4_addsChair_54 rfl (by decide) ?_
  refine v_callV0 h 55 58 dX4_addsChair_55 rfl cb_X4_puts cv_X4_puts ml_ob lk_X4_60 (rok (by decide) (by decide)) ⟨rfl, rfl⟩ ⟨Nat.zero_le _, Nat.zero_le _⟩ (k_puts (c := nc) (k := 5) (by omega) (by decide) _) rfl rfl (Nat.le_of_ble_eq_true rfl) ?_
  refine v_aload_n (i := 0) h 58 59 dX4_addsChair_58 rfl rfl ld0 ?_
  refine v_iload (i := 5) h 59 61 dX4_addsChair_59 rfl ld5 ?_
  refine v_bipush (v := 6) h 61 63 dX4_addsChair_61 rfl (by decide) ?_
  refine v_iconst (v := (-1)) h 63 64 dX4_addsChair_63 rfl (by decide) ?_
  refine v_callV0 h 64 67 dX4_addsChair_64 rfl cb_X4_puts cv_X4_puts ml_ob lk_X4_60 (rok (by decide) (by decide)) ⟨rfl, rfl⟩ ⟨Nat.zero_le _, Nat.zero_le _⟩ (k_puts (c := nc) (k := 6) (by omega) (by decide) _) rfl rfl (Nat.le_of_ble_eq_true rfl) ?_
  refine v_aload_n (i := 0) h 67 68 dX4_addsChair_67 rfl rfl ld0 ?_
  refine v_iload (i := 5) h 68 70 dX4_addsChair_68 rfl ld5 ?_
  refine v_bipush (v := 7) h 70 72 dX4_addsChair_70 rfl (by decide) ?_
  refine v_iconst (v := (-1)) h 72 73 dX4_addsChair_72 rfl (by decide) ?_
  refine v_callV0 h 73 76 dX4_addsChair_73 rfl cb_X4_puts cv_X4_puts ml_ob lk_X4_60 (rok (by decide) (by decide)) ⟨rfl, rfl⟩ ⟨Nat.zero_le _, Nat.zero_le _⟩ (k_puts (c := nc) (k := 7) (by omega) (by decide) _) rfl rfl (Nat.le_of_ble_eq_true rfl) ?_
  refine v_aload_n (i := 0) h 76 77 dX4_addsChair_76 rfl rfl ld0 ?_
  refine v_get h 77 80 dX4_addsChair_77 rfl fo_X4_7 ml_ob rfl ?_
  refine v_bipush (v := nI 7) h 80 82 dX4_addsChair_80 rfl (by decide) ?_
  refine v_dup2 h 82 83 dX4_addsChair_82 rfl rfl rfl ?_
  refine v_ildSm h 83 84 _ dX4_addsChair_83 rfl (by omega) ?_
  refine v_iconst (v := 1) h 84 85 dX4_addsChair_84 rfl (by decide) ?_
  refine v_iadd h 85 86 dX4_addsChair_85 rfl ?_
  refine v_istSm h 86 87 _ dX4_addsChair_86 rfl (by omega) ?_
  refine v_ret h 87 f dX4_addsChair_87 rfl (Nat.zero_le _) (Nat.zero_le _) ?_ ?_
  · rfl
  · refine congrArg (fun z => ml E D z Ps A K T N I hh w) ?_
    unfold hangS waitS
    funext i
    by_cases q0 : i = 7
    · subst q0
      simp (disch := omega) only [upd_self, upd_ne, e7, nI_1]
    by_cases q1 : i = 13 + 8 * nc + 0
    · subst q1
      simp (disch := omega) only [upd_self, upd_ne, e7, nI_1]
    by_cases q2 : i = 13 + 8 * nc + 1
    · subst q2
      simp (disch := omega) only [upd_self, upd_ne, e7, nI_1]
    by_cases q3 : i = 13 + 8 * nc + 2
    · subst q3
      simp (disch := omega) only [upd_self, upd_ne, e7, nI_1]
    by_cases q4 : i = 13 + 8 * nc + 3
    · subst q4
      simp (disch := omega) only [upd_self, upd_ne, e7, nI_1]
    by_cases q5 : i = 13 + 8 * nc + 4
    · subst q5
      simp (disch := omega) only [upd_self, upd_ne, e7, nI_1]
    by_cases q6 : i = 13 + 8 * nc + 5
    · subst q6
      simp (disch := omega) only [upd_self, upd_ne, e7, nI_1]
    by_cases q7 : i = 13 + 8 * nc + 6
    · subst q7
      simp (disch := omega) only [upd_self, upd_ne, e7, nI_1]
    by_cases q8 : i = 13 + 8 * nc + 7
    · subst q8
      simp (disch := omega) only [upd_self, upd_ne, e7, nI_1]
    simp (disch := omega) only [upd_ne]

def clrS (S : St) (t : Nat) : Nat → St
  | 0 => S
  | k + 1 => upd (clrS S t k) (125 + 8 * t + k) 0
theorem clr_lo {S : St} {t i : Nat} (h : i < 125) : ∀ k, clrS S t k i = S i
  | 0 => rfl
  | k + 1 => (upd_ne _ _ (by omega)).trans (clr_lo h k)
set_option maxRecDepth 100000 in
set_option maxHeartbeats 4000000 in
theorem k_addsTeam {E : EE} {D : Nat} {S : St} {Ps : Nat → St} {A K T N I : St} {hh : Int64} {w : Wo} {nt : Nat} (e8 : S 8 = nI nt) (hm : nt < 4) (sp ti : Int32) : Cd E mX4_addsTeam (ml E D S Ps A K T N I hh w) [.ref D, .int sp, .int ti] (none) (ml E D (standS (upd S 8 (nI (nt + 1))) nt sp ti) Ps A K T N I hh w) := by
  refine Cd.of RX4 rfl (by decide) [some (.ref D), some (.int sp), some (.int ti), none, none] (Nat.le_of_ble_eq_true rfl) rfl (fun Γ h f hmn => ?_)
  refine v_aload_n (i := 0) h 0 1 dX4_addsTeam_0 rfl rfl ld0 ?_
  refine v_get h 1 4 dX4_addsTeam_1 rfl fo_X4_7 ml_ob rfl ?_
  refine v_bipush (v := nI 8) h 4 6 dX4_addsTeam_4 rfl (by decide) ?_
  refine v_ildSm h 6 7 _ dX4_addsTeam_6 rfl (by omega) ?_
  rw [e8]
  refine v_istore_n (i := 3) h 7 8 dX4_addsTeam_7 rfl rfl (by decide) (so3 rfl) ?_
  refine v_iconst (v := 0) h 8 9 dX4_addsTeam_8 rfl (by decide) ?_
  refine v_istore (i := 4) h 9 11 dX4_addsTeam_9 rfl (by decide) (so4 rfl) ?_
  have loop11 : ∀ d j, j + d = 8 → V E Γ 0 0 11 [some (.ref D), some (.int sp), some (.int ti), some (.int (nI nt)), some (.int (nI j))] [] (ml E D (clrS S nt j) Ps A K T N I hh w) := by
    intro d
    induction d with
    | zero =>
      intro j hj
      obtain rfl : 8 = j := by omega
      refine v_iload (i := 4) h 11 13 dX4_addsTeam_11 rfl ld4 ?_
      refine v_bipush (v := nI 8) h 13 15 dX4_addsTeam_13 rfl (by decide) ?_
      refine v_icmp_ge h 15 18 32 dX4_addsTeam_15 rfl (by decide) (fun h15 => ?_) (fun h15 => absurd (nI_le (Nat.le_refl _) (by decide)) h15)
      refine v_aload_n (i := 0) h 32 33 dX4_addsTeam_32 rfl rfl ld0 ?_
      refine v_iload_n (i := 3) h 33 34 dX4_addsTeam_33 rfl rfl ld3 ?_
      refine v_iconst (v := 0) h 34 35 dX4_addsTeam_34 rfl (by decide) ?_
      refine v_iload_n (i := 1) h 35 36 dX4_addsTeam_35 rfl rfl ld1 ?_
      refine v_callV0 h 36 39 dX4_addsTeam_36 rfl cb_X4_putsTeam cv_X4_putsTeam ml_ob lk_X4_56 (rok (by decide) (by decide)) ⟨rfl, rfl⟩ ⟨Nat.zero_le _, Nat.zero_le _⟩ (k_putsTeam (c := nt) (k := 0) (by omega) (by decide) _) rfl rfl (Nat.le_of_ble_eq_true rfl) ?_
      refine v_aload_n (i := 0) h 39 40 dX4_addsTeam_39 rfl rfl ld0 ?_
      refine v_iload_n (i := 3) h 40 41 dX4_addsTeam_40 rfl rfl ld3 ?_
      refine v_iconst (v := 1) h 41 42 dX4_addsTeam_41 rfl (by decide) ?_
      refine v_iload_n (i := 2) h 42 43 dX4_addsTeam_42 rfl rfl ld2 ?_
      refine v_callV0 h 43 46 dX4_addsTeam_43 rfl cb_X4_putsTeam cv_X4_putsTeam ml_ob lk_X4_56 (rok (by decide) (by decide)) ⟨rfl, rfl⟩ ⟨Nat.zero_le _, Nat.zero_le _⟩ (k_putsTeam (c := nt) (k := 1) (by omega) (by decide) _) rfl rfl (Nat.le_of_ble_eq_true rfl) ?_
      refine v_aload_n (i := 0) h 46 47 dX4_addsTeam_46 rfl rfl ld0 ?_
      refine v_iload_n (i := 3) h 47 48 dX4_addsTeam_47 rfl rfl ld3 ?_
      refine v_iconst (v := 4) h 48 49 dX4_addsTeam_48 rfl (by decide) ?_
      refine v_iconst (v := (-1)) h 49 50 dX4_addsTeam_49 rfl (by decide) ?_
      refine v_callV0 h 50 53 dX4_addsTeam_50 rfl cb_X4_putsTeam cv_X4_putsTeam ml_ob lk_X4_56 (rok (by decide) (by decide)) ⟨rfl, rfl⟩ ⟨Nat.zero_le _, Nat.zero_le _⟩ (k_putsTeam (c := nt) (k := 4) (by omega) (by decide) _) rfl rfl (Nat.le_of_ble_eq_true rfl) ?_
      refine v_aload_n (i := 0) h 53 54 dX4_addsTeam_53 rfl rfl ld0 ?_
      refine v_get h 54 57 dX4_addsTeam_54 rfl fo_X4_7 ml_ob rfl ?_
      refine v_bipush (v := nI 8) h 57 59 dX4_addsTeam_57 rfl (by decide) ?_
      refine v_dup2 h 59 60 dX4_addsTeam_59 rfl rfl rfl ?_
      refine v_ildSm h 60 61 _ dX4_addsTeam_60 rfl (by omega) ?_
      refine v_iconst (v := 1) h 61 62 dX4_addsTeam_61 rfl (by decide) ?_
      refine v_iadd h 62 63 dX4_addsTeam_62 rfl ?_
      refine v_istSm h 63 64 _ dX4_addsTeam_63 rfl (by omega) ?_
      refine v_ret h 64 f dX4_addsTeam_64 rfl (Nat.zero_le _) (Nat.zero_le _) ?_ ?_
      · rfl
      · refine congrArg (fun z => ml E D z Ps A K T N I hh w) ?_
        unfold standS idleS clrS clrS clrS clrS clrS clrS clrS clrS clrS
        funext i
        by_cases q0 : i = 8
        · subst q0
          simp (disch := omega) only [upd_self, upd_ne, e8, nI_1]
        by_cases q1 : i = 125 + 8 * nt + 0
        · subst q1
          simp (disch := omega) only [upd_self, upd_ne, e8, nI_1]
        by_cases q2 : i = 125 + 8 * nt + 1
        · subst q2
          simp (disch := omega) only [upd_self, upd_ne, e8, nI_1]
        by_cases q3 : i = 125 + 8 * nt + 2
        · subst q3
          simp (disch := omega) only [upd_self, upd_ne, e8, nI_1]
        by_cases q4 : i = 125 + 8 * nt + 3
        · subst q4
          simp (disch := omega) only [upd_self, upd_ne, e8, nI_1]
        by_cases q5 : i = 125 + 8 * nt + 4
        · subst q5
          simp (disch := omega) only [upd_self, upd_ne, e8, nI_1]
        by_cases q6 : i = 125 + 8 * nt + 5
        · subst q6
          simp (disch := omega) only [upd_self, upd_ne, e8, nI_1]
        by_cases q7 : i = 125 + 8 * nt + 6
        · subst q7
          simp (disch := omega) only [upd_self, upd_ne, e8, nI_1]
        by_cases q8 : i = 125 + 8 * nt + 7
        · subst q8
          simp (disch := omega) only [upd_self, upd_ne, e8, nI_1]
        simp (disch := omega) only [upd_ne]
    | succ d ih =>
      intro j hj
      refine v_iload (i := 4) h 11 13 dX4_addsTeam_11 rfl ld4 ?_
      refine v_bipush (v := nI 8) h 13 15 dX4_addsTeam_13 rfl (by decide) ?_
      refine v_icmp_ge h 15 18 32 dX4_addsTeam_15 rfl (by decide) (fun h15 => absurd h15 (nI_ge (by omega) (by decide))) (fun h15 => ?_)
      refine v_aload_n (i := 0) h 18 19 dX4_addsTeam_18 rfl rfl ld0 ?_
      refine v_iload_n (i := 3) h 19 20 dX4_addsTeam_19 rfl rfl ld3 ?_
      refine v_iload (i := 4) h 20 22 dX4_addsTeam_20 rfl ld4 ?_
      refine v_iconst (v := 0) h 22 23 dX4_addsTeam_22 rfl (by decide) ?_
      refine v_callV0 h 23 26 dX4_addsTeam_23 rfl cb_X4_putsTeam cv_X4_putsTeam ml_ob lk_X4_56 (rok (by decide) (by decide)) ⟨rfl, rfl⟩ ⟨Nat.zero_le _, Nat.zero_le _⟩ (k_putsTeam (c := nt) (k := j) (by omega) (by omega) _) rfl rfl (Nat.le_of_ble_eq_true rfl) ?_
      refine v_iinc (i := 4) h 26 29 dX4_addsTeam_26 rfl ld4 (by first | exact iinc1 _ | rfl) (by decide) (so4 rfl) ?_
      refine v_goto h 29 11 dX4_addsTeam_29 (by decide) ?_
      exact V.weakT (ih (j + 1) (by omega)) (And.intro rfl (And.intro rfl (And.intro rfl (And.intro rfl (And.intro rfl trivial)))))
  exact V.weakT (loop11 8 0 (by omega)) (And.intro rfl (And.intro rfl (And.intro rfl (And.intro rfl (And.intro rfl trivial)))))

set_option maxRecDepth 100000 in
set_option maxHeartbeats 4000000 in
theorem r_addChair1 {E : EE} {D : Nat} {S : St} {Ps : Nat → St} {A K T N I : St} {hh : Int64} {w : Wo} {sp ri co ch : Int32} (z : sp < 0 ∨ S 0 ≤ sp) : Cd E mX4_addChair (ml E D S Ps A K T N I hh w) [.ref D, .int sp, .int ri, .int co, .int ch] (some (.int 0)) (ml E D S Ps A K T N (upd I 2 1) hh w) := by
  refine Cd.of RX4 rfl (by decide) [some (.ref D), some (.int sp), some (.int ri), some (.int co), some (.int ch)] (Nat.le_of_ble_eq_true rfl) rfl (fun Γ h f hmn => ?_)
  refine v_aload_n (i := 0) h 0 1 dX4_addChair_0 rfl rfl ld0 ?_
  refine v_iload_n (i := 1) h 1 2 dX4_addChair_1 rfl rfl ld1 ?_
  refine v_callV1 h 2 5 dX4_addChair_2 rfl cb_X4_isSpan cv_X4_isSpan ml_ob lk_X4_88 (rok (by decide) (by decide)) ⟨rfl, rfl⟩ ⟨Nat.zero_le _, Nat.zero_le _⟩ (k_isSpanN z) rfl rfl (Nat.le_of_ble_eq_true rfl) ?_
  refine v_if_ne h 5 8 14 dX4_addChair_5 rfl (by decide) (fun h5 => absurd rfl h5) (fun h5 => ?_)
  refine v_aload_n (i := 0) h 8 9 dX4_addChair_8 rfl rfl ld0 ?_
  refine v_iconst (v := 1) h 9 10 dX4_addChair_9 rfl (by decide) ?_
  refine v_callV1 h 10 13 dX4_addChair_10 rfl cb_X4_fails cv_X4_fails ml_ob lk_X4_92 (rok (by decide) (by decide)) ⟨rfl, rfl⟩ ⟨Nat.zero_le _, Nat.zero_le _⟩ (k_fails _) rfl rfl (Nat.le_of_ble_eq_true rfl) ?_
  exact v_iret h 13 f dX4_addChair_13 rfl (Nat.zero_le _) (Nat.zero_le _) rfl rfl

set_option maxRecDepth 100000 in
set_option maxHeartbeats 4000000 in
theorem r_addChair2 {E : EE} {D : Nat} {S : St} {Ps : Nat → St} {A K T N I : St} {hh : Int64} {w : Wo} {sp ri co ch : Int32} (y1 : ¬ sp < 0) (y2 : ¬ S 0 ≤ sp) (z : ri < 1 ∨ 4 < ri) : Cd E mX4_addChair (ml E D S Ps A K T N I hh w) [.ref D, .int sp, .int ri, .int co, .int ch] (some (.int 0)) (ml E D S Ps A K T N (upd I 2 2) hh w) := by
  refine Cd.of RX4 rfl (by decide) [some (.ref D), some (.int sp), some (.int ri), some (.int co), some (.int ch)] (Nat.le_of_ble_eq_true rfl) rfl (fun Γ h f hmn => ?_)
  refine v_aload_n (i := 0) h 0 1 dX4_addChair_0 rfl rfl ld0 ?_
  refine v_iload_n (i := 1) h 1 2 dX4_addChair_1 rfl rfl ld1 ?_
  refine v_callV1 h 2 5 dX4_addChair_2 rfl cb_X4_isSpan cv_X4_isSpan ml_ob lk_X4_88 (rok (by decide) (by decide)) ⟨rfl, rfl⟩ ⟨Nat.zero_le _, Nat.zero_le _⟩ (k_isSpanY y1 y2) rfl rfl (Nat.le_of_ble_eq_true rfl) ?_
  refine v_if_ne h 5 8 14 dX4_addChair_5 rfl (by decide) (fun h5 => ?_) (fun h5 => absurd h5 (by decide))
  refine v_iload_n (i := 2) h 14 15 dX4_addChair_14 rfl rfl ld2 ?_
  refine v_iconst (v := 1) h 15 16 dX4_addChair_15 rfl (by decide) ?_
  refine v_iconst (v := 4) h 16 17 dX4_addChair_16 rfl (by decide) ?_
  refine v_callS1 h 17 20 dX4_addChair_17 rfl cb_X4_in cs_X4_in lk_X4_95 (rok (by decide) (by decide)) ⟨rfl, rfl⟩ ⟨Nat.zero_le _, Nat.zero_le _⟩ (k_inN z) rfl rfl (Nat.le_of_ble_eq_true rfl) ?_
  refine v_if_eq h 20 23 33 dX4_addChair_20 rfl (by decide) (fun h20 => ?_) (fun h20 => absurd (by decide) h20)
  refine v_aload_n (i := 0) h 33 34 dX4_addChair_33 rfl rfl ld0 ?_
  refine v_iconst (v := 2) h 34 35 dX4_addChair_34 rfl (by decide) ?_
  refine v_callV1 h 35 38 dX4_addChair_35 rfl cb_X4_fails cv_X4_fails ml_ob lk_X4_92 (rok (by decide) (by decide)) ⟨rfl, rfl⟩ ⟨Nat.zero_le _, Nat.zero_le _⟩ (k_fails _) rfl rfl (Nat.le_of_ble_eq_true rfl) ?_
  exact v_iret h 38 f dX4_addChair_38 rfl (Nat.zero_le _) (Nat.zero_le _) rfl rfl

set_option maxRecDepth 100000 in
set_option maxHeartbeats 4000000 in
theorem r_addChair2b {E : EE} {D : Nat} {S : St} {Ps : Nat → St} {A K T N I : St} {hh : Int64} {w : Wo} {sp ri co ch : Int32} (y1 : ¬ sp < 0) (y2 : ¬ S 0 ≤ sp) (y3 : ¬ ri < 1) (y4 : ¬ 4 < ri) (z : co < 0 ∨ 20 < co) : Cd E mX4_addChair (ml E D S Ps A K T N I hh w) [.ref D, .int sp, .int ri, .int co, .int ch] (some (.int 0)) (ml E D S Ps A K T N (upd I 2 2) hh w) := by
  refine Cd.of RX4 rfl (by decide) [some (.ref D), some (.int sp), some (.int ri), some (.int co), some (.int ch)] (Nat.le_of_ble_eq_true rfl) rfl (fun Γ h f hmn => ?_)
  refine v_aload_n (i := 0) h 0 1 dX4_addChair_0 rfl rfl ld0 ?_
  refine v_iload_n (i := 1) h 1 2 dX4_addChair_1 rfl rfl ld1 ?_
  refine v_callV1 h 2 5 dX4_addChair_2 rfl cb_X4_isSpan cv_X4_isSpan ml_ob lk_X4_88 (rok (by decide) (by decide)) ⟨rfl, rfl⟩ ⟨Nat.zero_le _, Nat.zero_le _⟩ (k_isSpanY y1 y2) rfl rfl (Nat.le_of_ble_eq_true rfl) ?_
  refine v_if_ne h 5 8 14 dX4_addChair_5 rfl (by decide) (fun h5 => ?_) (fun h5 => absurd h5 (by decide))
  refine v_iload_n (i := 2) h 14 15 dX4_addChair_14 rfl rfl ld2 ?_
  refine v_iconst (v := 1) h 15 16 dX4_addChair_15 rfl (by decide) ?_
  refine v_iconst (v := 4) h 16 17 dX4_addChair_16 rfl (by decide) ?_
  refine v_callS1 h 17 20 dX4_addChair_17 rfl cb_X4_in cs_X4_in lk_X4_95 (rok (by decide) (by decide)) ⟨rfl, rfl⟩ ⟨Nat.zero_le _, Nat.zero_le _⟩ (k_inY y3 y4) rfl rfl (Nat.le_of_ble_eq_true rfl) ?_
  refine v_if_eq h 20 23 33 dX4_addChair_20 rfl (by decide) (fun h20 => absurd h20 (by decide)) (fun h20 => ?_)
  refine v_iload_n (i := 3) h 23 24 dX4_addChair_23 rfl rfl ld3 ?_
  refine v_iconst (v := 0) h 24 25 dX4_addChair_24 rfl (by decide) ?_
  refine v_bipush (v := 20) h 25 27 dX4_addChair_25 rfl (by decide) ?_
  refine v_callS1 h 27 30 dX4_addChair_27 rfl cb_X4_in cs_X4_in lk_X4_95 (rok (by decide) (by decide)) ⟨rfl, rfl⟩ ⟨Nat.zero_le _, Nat.zero_le _⟩ (k_inN z) rfl rfl (Nat.le_of_ble_eq_true rfl) ?_
  refine v_if_ne h 30 33 39 dX4_addChair_30 rfl (by decide) (fun h30 => absurd rfl h30) (fun h30 => ?_)
  refine v_aload_n (i := 0) h 33 34 dX4_addChair_33 rfl rfl ld0 ?_
  refine v_iconst (v := 2) h 34 35 dX4_addChair_34 rfl (by decide) ?_
  refine v_callV1 h 35 38 dX4_addChair_35 rfl cb_X4_fails cv_X4_fails ml_ob lk_X4_92 (rok (by decide) (by decide)) ⟨rfl, rfl⟩ ⟨Nat.zero_le _, Nat.zero_le _⟩ (k_fails _) rfl rfl (Nat.le_of_ble_eq_true rfl) ?_
  exact v_iret h 38 f dX4_addChair_38 rfl (Nat.zero_le _) (Nat.zero_le _) rfl rfl

set_option maxRecDepth 100000 in
set_option maxHeartbeats 4000000 in
theorem r_addChair3 {E : EE} {D : Nat} {S : St} {Ps : Nat → St} {A K T N I : St} {hh : Int64} {w : Wo} {sp ri co ch : Int32} (y1 : ¬ sp < 0) (y2 : ¬ S 0 ≤ sp) (y3 : ¬ ri < 1) (y4 : ¬ 4 < ri) (y5 : ¬ co < 0) (y6 : ¬ 20 < co) (z : S 7 = 14) : Cd E mX4_addChair (ml E D S Ps A K T N I hh w) [.ref D, .int sp, .int ri, .int co, .int ch] (some (.int 0)) (ml E D S Ps A K T N (upd I 2 3) hh w) := by
  refine Cd.of RX4 rfl (by decide) [some (.ref D), some (.int sp), some (.int ri), some (.int co), some (.int ch)] (Nat.le_of_ble_eq_true rfl) rfl (fun Γ h f hmn => ?_)
  refine v_aload_n (i := 0) h 0 1 dX4_addChair_0 rfl rfl ld0 ?_
  refine v_iload_n (i := 1) h 1 2 dX4_addChair_1 rfl rfl ld1 ?_
  refine v_callV1 h 2 5 dX4_addChair_2 rfl cb_X4_isSpan cv_X4_isSpan ml_ob lk_X4_88 (rok (by decide) (by decide)) ⟨rfl, rfl⟩ ⟨Nat.zero_le _, Nat.zero_le _⟩ (k_isSpanY y1 y2) rfl rfl (Nat.le_of_ble_eq_true rfl) ?_
  refine v_if_ne h 5 8 14 dX4_addChair_5 rfl (by decide) (fun h5 => ?_) (fun h5 => absurd h5 (by decide))
  refine v_iload_n (i := 2) h 14 15 dX4_addChair_14 rfl rfl ld2 ?_
  refine v_iconst (v := 1) h 15 16 dX4_addChair_15 rfl (by decide) ?_
  refine v_iconst (v := 4) h 16 17 dX4_addChair_16 rfl (by decide) ?_
  refine v_callS1 h 17 20 dX4_addChair_17 rfl cb_X4_in cs_X4_in lk_X4_95 (rok (by decide) (by decide)) ⟨rfl, rfl⟩ ⟨Nat.zero_le _, Nat.zero_le _⟩ (k_inY y3 y4) rfl rfl (Nat.le_of_ble_eq_true rfl) ?_
  refine v_if_eq h 20 23 33 dX4_addChair_20 rfl (by decide) (fun h20 => absurd h20 (by decide)) (fun h20 => ?_)
  refine v_iload_n (i := 3) h 23 24 dX4_addChair_23 rfl rfl ld3 ?_
  refine v_iconst (v := 0) h 24 25 dX4_addChair_24 rfl (by decide) ?_
  refine v_bipush (v := 20) h 25 27 dX4_addChair_25 rfl (by decide) ?_
  refine v_callS1 h 27 30 dX4_addChair_27 rfl cb_X4_in cs_X4_in lk_X4_95 (rok (by decide) (by decide)) ⟨rfl, rfl⟩ ⟨Nat.zero_le _, Nat.zero_le _⟩ (k_inY y5 y6) rfl rfl (Nat.le_of_ble_eq_true rfl) ?_
  refine v_if_ne h 30 33 39 dX4_addChair_30 rfl (by decide) (fun h30 => ?_) (fun h30 => absurd h30 (by decide))
  refine v_aload_n (i := 0) h 39 40 dX4_addChair_39 rfl rfl ld0 ?_
  refine v_get h 40 43 dX4_addChair_40 rfl fo_X4_7 ml_ob rfl ?_
  refine v_bipush (v := nI 7) h 43 45 dX4_addChair_43 rfl (by decide) ?_
  refine v_ildSm h 45 46 _ dX4_addChair_45 rfl (by omega) ?_
  refine v_bipush (v := 14) h 46 48 dX4_addChair_46 rfl (by decide) ?_
  refine v_icmp_ne h 48 51 57 dX4_addChair_48 rfl (by decide) (fun h48 => absurd z h48) (fun h48 => ?_)
  refine v_aload_n (i := 0) h 51 52 dX4_addChair_51 rfl rfl ld0 ?_
  refine v_iconst (v := 3) h 52 53 dX4_addChair_52 rfl (by decide) ?_
  refine v_callV1 h 53 56 dX4_addChair_53 rfl cb_X4_fails cv_X4_fails ml_ob lk_X4_92 (rok (by decide) (by decide)) ⟨rfl, rfl⟩ ⟨Nat.zero_le _, Nat.zero_le _⟩ (k_fails _) rfl rfl (Nat.le_of_ble_eq_true rfl) ?_
  exact v_iret h 56 f dX4_addChair_56 rfl (Nat.zero_le _) (Nat.zero_le _) rfl rfl

set_option maxRecDepth 100000 in
set_option maxHeartbeats 4000000 in
theorem r_addChair {E : EE} {D : Nat} {S : St} {Ps : Nat → St} {A K T N I : St} {hh : Int64} {w : Wo} {sp ri co ch : Int32} (y1 : ¬ sp < 0) (y2 : ¬ S 0 ≤ sp) (y3 : ¬ ri < 1) (y4 : ¬ 4 < ri) (y5 : ¬ co < 0) (y6 : ¬ 20 < co) {nc : Nat} (e7 : S 7 = nI nc) (hm : nc < 14) (hz : ch = 0 ∨ ch = 1) {ks : Nat} (hks : ks ≤ 4) (e0 : I 0 = nI ks) : Cd E mX4_addChair (ml E D S Ps A K T N I hh w) [.ref D, .int sp, .int ri, .int co, .int ch] (some (.int (nI nc))) (ml E D (hangS (upd S 7 (nI (nc + 1))) nc sp ri co ch) (psh Ps S ks) S K T N (upd (upd I 0 (nI (min 4 (ks + 1)))) 2 0) hh w) := by
  refine Cd.of RX4 rfl (by decide) [some (.ref D), some (.int sp), some (.int ri), some (.int co), some (.int ch)] (Nat.le_of_ble_eq_true rfl) rfl (fun Γ h f hmn => ?_)
  refine v_aload_n (i := 0) h 0 1 dX4_addChair_0 rfl rfl ld0 ?_
  refine v_iload_n (i := 1) h 1 2 dX4_addChair_1 rfl rfl ld1 ?_
  refine v_callV1 h 2 5 dX4_addChair_2 rfl cb_X4_isSpan cv_X4_isSpan ml_ob lk_X4_88 (rok (by decide) (by decide)) ⟨rfl, rfl⟩ ⟨Nat.zero_le _, Nat.zero_le _⟩ (k_isSpanY y1 y2) rfl rfl (Nat.le_of_ble_eq_true rfl) ?_
  refine v_if_ne h 5 8 14 dX4_addChair_5 rfl (by decide) (fun h5 => ?_) (fun h5 => absurd h5 (by decide))
  refine v_iload_n (i := 2) h 14 15 dX4_addChair_14 rfl rfl ld2 ?_
  refine v_iconst (v := 1) h 15 16 dX4_addChair_15 rfl (by decide) ?_
  refine v_iconst (v := 4) h 16 17 dX4_addChair_16 rfl (by decide) ?_
  refine v_callS1 h 17 20 dX4_addChair_17 rfl cb_X4_in cs_X4_in lk_X4_95 (rok (by decide) (by decide)) ⟨rfl, rfl⟩ ⟨Nat.zero_le _, Nat.zero_le _⟩ (k_inY y3 y4) rfl rfl (Nat.le_of_ble_eq_true rfl) ?_
  refine v_if_eq h 20 23 33 dX4_addChair_20 rfl (by decide) (fun h20 => absurd h20 (by decide)) (fun h20 => ?_)
  refine v_iload_n (i := 3) h 23 24 dX4_addChair_23 rfl rfl ld3 ?_
  refine v_iconst (v := 0) h 24 25 dX4_addChair_24 rfl (by decide) ?_
  refine v_bipush (v := 20) h 25 27 dX4_addChair_25 rfl (by decide) ?_
  refine v_callS1 h 27 30 dX4_addChair_27 rfl cb_X4_in cs_X4_in lk_X4_95 (rok (by decide) (by decide)) ⟨rfl, rfl⟩ ⟨Nat.zero_le _, Nat.zero_le _⟩ (k_inY y5 y6) rfl rfl (Nat.le_of_ble_eq_true rfl) ?_
  refine v_if_ne h 30 33 39 dX4_addChair_30 rfl (by decide) (fun h30 => ?_) (fun h30 => absurd h30 (by decide))
  refine v_aload_n (i := 0) h 39 40 dX4_addChair_39 rfl rfl ld0 ?_
  refine v_get h 40 43 dX4_addChair_40 rfl fo_X4_7 ml_ob rfl ?_
  refine v_bipush (v := nI 7) h 43 45 dX4_addChair_43 rfl (by decide) ?_
  refine v_ildSm h 45 46 _ dX4_addChair_45 rfl (by omega) ?_
  refine v_bipush (v := 14) h 46 48 dX4_addChair_46 rfl (by decide) ?_
  refine v_icmp_ne h 48 51 57 dX4_addChair_48 rfl (by decide) (fun h48 => ?_) (fun h48 => absurd (nI_inj (b := 14) (by omega) (by decide) (e7.symm.trans h48)) (by omega))
  refine v_aload_n (i := 0) h 57 58 dX4_addChair_57 rfl rfl ld0 ?_
  refine v_callV0 h 58 61 dX4_addChair_58 rfl cb_X4_hold cv_X4_hold ml_ob lk_X4_99 (rok (by decide) (by decide)) ⟨rfl, rfl⟩ ⟨Nat.zero_le _, Nat.zero_le _⟩ k_hold rfl rfl (Nat.le_of_ble_eq_true rfl) ?_
  refine v_aload_n (i := 0) h 61 62 dX4_addChair_61 rfl rfl ld0 ?_
  refine v_iload_n (i := 1) h 62 63 dX4_addChair_62 rfl rfl ld1 ?_
  refine v_iload_n (i := 2) h 63 64 dX4_addChair_63 rfl rfl ld2 ?_
  refine v_iload_n (i := 3) h 64 65 dX4_addChair_64 rfl rfl ld3 ?_
  refine v_iload (i := 4) h 65 67 dX4_addChair_65 rfl ld4 ?_
  refine v_if_eq h 67 70 74 dX4_addChair_67 rfl (by decide) (fun h67 => ?_) (fun h67 => ?_)
  · rw [h67] at f
    refine v_iconst (v := 0) h 74 75 dX4_addChair_74 rfl (by decide) ?_
    refine v_callV0 h 75 78 dX4_addChair_75 rfl cb_X4_addsChair cv_X4_addsChair ml_ob lk_X4_102 (rok (by decide) (by decide)) ⟨rfl, rfl⟩ ⟨Nat.zero_le _, Nat.zero_le _⟩ (k_addsChair e7 hm _ _ _ _) rfl rfl (Nat.le_of_ble_eq_true rfl) ?_
    refine v_aload_n (i := 0) h 78 79 dX4_addChair_78 rfl rfl ld0 ?_
    refine v_aload_n (i := 0) h 79 80 dX4_addChair_79 rfl rfl ld0 ?_
    refine v_get h 80 83 dX4_addChair_80 rfl fo_X4_7 ml_ob rfl ?_
    refine v_bipush (v := nI 7) h 83 85 dX4_addChair_83 rfl (by decide) ?_
    refine v_ildSm h 85 86 _ dX4_addChair_85 rfl (by omega) ?_
    rw [hangS_ne (by omega), upd_self]
    refine v_iconst (v := 1) h 86 87 dX4_addChair_86 rfl (by decide) ?_
    refine v_isub h 87 88 dX4_addChair_87 rfl ?_
    rw [nI_pred]
    refine v_callV1 h 88 91 dX4_addChair_88 rfl cb_X4_ends cv_X4_ends ml_ob lk_X4_106 (rok (by decide) (by decide)) ⟨rfl, rfl⟩ ⟨Nat.zero_le _, Nat.zero_le _⟩ (k_ends hks e0 _) rfl rfl (Nat.le_of_ble_eq_true rfl) ?_
    exact v_iret h 91 f dX4_addChair_91 rfl (Nat.zero_le _) (Nat.zero_le _) rfl rfl
  · rw [hz.resolve_left h67] at f
    refine v_iconst (v := 1) h 70 71 dX4_addChair_70 rfl (by decide) ?_
    refine v_goto h 71 75 dX4_addChair_71 (by decide) ?_
    refine v_callV0 h 75 78 dX4_addChair_75 rfl cb_X4_addsChair cv_X4_addsChair ml_ob lk_X4_102 (rok (by decide) (by decide)) ⟨rfl, rfl⟩ ⟨Nat.zero_le _, Nat.zero_le _⟩ (k_addsChair e7 hm _ _ _ _) rfl rfl (Nat.le_of_ble_eq_true rfl) ?_
    refine v_aload_n (i := 0) h 78 79 dX4_addChair_78 rfl rfl ld0 ?_
    refine v_aload_n (i := 0) h 79 80 dX4_addChair_79 rfl rfl ld0 ?_
    refine v_get h 80 83 dX4_addChair_80 rfl fo_X4_7 ml_ob rfl ?_
    refine v_bipush (v := nI 7) h 83 85 dX4_addChair_83 rfl (by decide) ?_
    refine v_ildSm h 85 86 _ dX4_addChair_85 rfl (by omega) ?_
    rw [hangS_ne (by omega), upd_self]
    refine v_iconst (v := 1) h 86 87 dX4_addChair_86 rfl (by decide) ?_
    refine v_isub h 87 88 dX4_addChair_87 rfl ?_
    rw [nI_pred]
    refine v_callV1 h 88 91 dX4_addChair_88 rfl cb_X4_ends cv_X4_ends ml_ob lk_X4_106 (rok (by decide) (by decide)) ⟨rfl, rfl⟩ ⟨Nat.zero_le _, Nat.zero_le _⟩ (k_ends hks e0 _) rfl rfl (Nat.le_of_ble_eq_true rfl) ?_
    exact v_iret h 91 f dX4_addChair_91 rfl (Nat.zero_le _) (Nat.zero_le _) rfl rfl

set_option maxRecDepth 100000 in
set_option maxHeartbeats 4000000 in
theorem r_addTeam1 {E : EE} {D : Nat} {S : St} {Ps : Nat → St} {A K T N I : St} {hh : Int64} {w : Wo} {sp ti : Int32} (z : sp < 0 ∨ S 0 ≤ sp) : Cd E mX4_addTeam (ml E D S Ps A K T N I hh w) [.ref D, .int sp, .int ti] (some (.int 0)) (ml E D S Ps A K T N (upd I 2 1) hh w) := by
  refine Cd.of RX4 rfl (by decide) [some (.ref D), some (.int sp), some (.int ti)] (Nat.le_of_ble_eq_true rfl) rfl (fun Γ h f hmn => ?_)
  refine v_aload_n (i := 0) h 0 1 dX4_addTeam_0 rfl rfl ld0 ?_
  refine v_iload_n (i := 1) h 1 2 dX4_addTeam_1 rfl rfl ld1 ?_
  refine v_callV1 h 2 5 dX4_addTeam_2 rfl cb_X4_isSpan cv_X4_isSpan ml_ob lk_X4_88 (rok (by decide) (by decide)) ⟨rfl, rfl⟩ ⟨Nat.zero_le _, Nat.zero_le _⟩ (k_isSpanN z) rfl rfl (Nat.le_of_ble_eq_true rfl) ?_
  refine v_if_ne h 5 8 14 dX4_addTeam_5 rfl (by decide) (fun h5 => absurd rfl h5) (fun h5 => ?_)
  refine v_aload_n (i := 0) h 8 9 dX4_addTeam_8 rfl rfl ld0 ?_
  refine v_iconst (v := 1) h 9 10 dX4_addTeam_9 rfl (by decide) ?_
  refine v_callV1 h 10 13 dX4_addTeam_10 rfl cb_X4_fails cv_X4_fails ml_ob lk_X4_92 (rok (by decide) (by decide)) ⟨rfl, rfl⟩ ⟨Nat.zero_le _, Nat.zero_le _⟩ (k_fails _) rfl rfl (Nat.le_of_ble_eq_true rfl) ?_
  exact v_iret h 13 f dX4_addTeam_13 rfl (Nat.zero_le _) (Nat.zero_le _) rfl rfl

set_option maxRecDepth 100000 in
set_option maxHeartbeats 4000000 in
theorem r_addTeam2 {E : EE} {D : Nat} {S : St} {Ps : Nat → St} {A K T N I : St} {hh : Int64} {w : Wo} {sp ti : Int32} (y1 : ¬ sp < 0) (y2 : ¬ S 0 ≤ sp) (z : ti < 0 ∨ 30 < ti) : Cd E mX4_addTeam (ml E D S Ps A K T N I hh w) [.ref D, .int sp, .int ti] (some (.int 0)) (ml E D S Ps A K T N (upd I 2 2) hh w) := by
  refine Cd.of RX4 rfl (by decide) [some (.ref D), some (.int sp), some (.int ti)] (Nat.le_of_ble_eq_true rfl) rfl (fun Γ h f hmn => ?_)
  refine v_aload_n (i := 0) h 0 1 dX4_addTeam_0 rfl rfl ld0 ?_
  refine v_iload_n (i := 1) h 1 2 dX4_addTeam_1 rfl rfl ld1 ?_
  refine v_callV1 h 2 5 dX4_addTeam_2 rfl cb_X4_isSpan cv_X4_isSpan ml_ob lk_X4_88 (rok (by decide) (by decide)) ⟨rfl, rfl⟩ ⟨Nat.zero_le _, Nat.zero_le _⟩ (k_isSpanY y1 y2) rfl rfl (Nat.le_of_ble_eq_true rfl) ?_
  refine v_if_ne h 5 8 14 dX4_addTeam_5 rfl (by decide) (fun h5 => ?_) (fun h5 => absurd h5 (by decide))
  refine v_iload_n (i := 2) h 14 15 dX4_addTeam_14 rfl rfl ld2 ?_
  refine v_iconst (v := 0) h 15 16 dX4_addTeam_15 rfl (by decide) ?_
  refine v_bipush (v := 30) h 16 18 dX4_addTeam_16 rfl (by decide) ?_
  refine v_callS1 h 18 21 dX4_addTeam_18 rfl cb_X4_in cs_X4_in lk_X4_95 (rok (by decide) (by decide)) ⟨rfl, rfl⟩ ⟨Nat.zero_le _, Nat.zero_le _⟩ (k_inN z) rfl rfl (Nat.le_of_ble_eq_true rfl) ?_
  refine v_if_ne h 21 24 30 dX4_addTeam_21 rfl (by decide) (fun h21 => absurd rfl h21) (fun h21 => ?_)
  refine v_aload_n (i := 0) h 24 25 dX4_addTeam_24 rfl rfl ld0 ?_
  refine v_iconst (v := 2) h 25 26 dX4_addTeam_25 rfl (by decide) ?_
  refine v_callV1 h 26 29 dX4_addTeam_26 rfl cb_X4_fails cv_X4_fails ml_ob lk_X4_92 (rok (by decide) (by decide)) ⟨rfl, rfl⟩ ⟨Nat.zero_le _, Nat.zero_le _⟩ (k_fails _) rfl rfl (Nat.le_of_ble_eq_true rfl) ?_
  exact v_iret h 29 f dX4_addTeam_29 rfl (Nat.zero_le _) (Nat.zero_le _) rfl rfl

set_option maxRecDepth 100000 in
set_option maxHeartbeats 4000000 in
theorem r_addTeam3 {E : EE} {D : Nat} {S : St} {Ps : Nat → St} {A K T N I : St} {hh : Int64} {w : Wo} {sp ti : Int32} (y1 : ¬ sp < 0) (y2 : ¬ S 0 ≤ sp) (y3 : ¬ ti < 0) (y4 : ¬ 30 < ti) (z : S 8 = 4) : Cd E mX4_addTeam (ml E D S Ps A K T N I hh w) [.ref D, .int sp, .int ti] (some (.int 0)) (ml E D S Ps A K T N (upd I 2 3) hh w) := by
  refine Cd.of RX4 rfl (by decide) [some (.ref D), some (.int sp), some (.int ti)] (Nat.le_of_ble_eq_true rfl) rfl (fun Γ h f hmn => ?_)
  refine v_aload_n (i := 0) h 0 1 dX4_addTeam_0 rfl rfl ld0 ?_
  refine v_iload_n (i := 1) h 1 2 dX4_addTeam_1 rfl rfl ld1 ?_
  refine v_callV1 h 2 5 dX4_addTeam_2 rfl cb_X4_isSpan cv_X4_isSpan ml_ob lk_X4_88 (rok (by decide) (by decide)) ⟨rfl, rfl⟩ ⟨Nat.zero_le _, Nat.zero_le _⟩ (k_isSpanY y1 y2) rfl rfl (Nat.le_of_ble_eq_true rfl) ?_
  refine v_if_ne h 5 8 14 dX4_addTeam_5 rfl (by decide) (fun h5 => ?_) (fun h5 => absurd h5 (by decide))
  refine v_iload_n (i := 2) h 14 15 dX4_addTeam_14 rfl rfl ld2 ?_
  refine v_iconst (v := 0) h 15 16 dX4_addTeam_15 rfl (by decide) ?_
  refine v_bipush (v := 30) h 16 18 dX4_addTeam_16 rfl (by decide) ?_
  refine v_callS1 h 18 21 dX4_addTeam_18 rfl cb_X4_in cs_X4_in lk_X4_95 (rok (by decide) (by decide)) ⟨rfl, rfl⟩ ⟨Nat.zero_le _, Nat.zero_le _⟩ (k_inY y3 y4) rfl rfl (Nat.le_of_ble_eq_true rfl) ?_
  refine v_if_ne h 21 24 30 dX4_addTeam_21 rfl (by decide) (fun h21 => ?_) (fun h21 => absurd h21 (by decide))
  refine v_aload_n (i := 0) h 30 31 dX4_addTeam_30 rfl rfl ld0 ?_
  refine v_get h 31 34 dX4_addTeam_31 rfl fo_X4_7 ml_ob rfl ?_
  refine v_bipush (v := nI 8) h 34 36 dX4_addTeam_34 rfl (by decide) ?_
  refine v_ildSm h 36 37 _ dX4_addTeam_36 rfl (by omega) ?_
  refine v_iconst (v := 4) h 37 38 dX4_addTeam_37 rfl (by decide) ?_
  refine v_icmp_ne h 38 41 47 dX4_addTeam_38 rfl (by decide) (fun h38 => absurd z h38) (fun h38 => ?_)
  refine v_aload_n (i := 0) h 41 42 dX4_addTeam_41 rfl rfl ld0 ?_
  refine v_iconst (v := 3) h 42 43 dX4_addTeam_42 rfl (by decide) ?_
  refine v_callV1 h 43 46 dX4_addTeam_43 rfl cb_X4_fails cv_X4_fails ml_ob lk_X4_92 (rok (by decide) (by decide)) ⟨rfl, rfl⟩ ⟨Nat.zero_le _, Nat.zero_le _⟩ (k_fails _) rfl rfl (Nat.le_of_ble_eq_true rfl) ?_
  exact v_iret h 46 f dX4_addTeam_46 rfl (Nat.zero_le _) (Nat.zero_le _) rfl rfl

set_option maxRecDepth 100000 in
set_option maxHeartbeats 4000000 in
theorem r_addTeam {E : EE} {D : Nat} {S : St} {Ps : Nat → St} {A K T N I : St} {hh : Int64} {w : Wo} {sp ti : Int32} (y1 : ¬ sp < 0) (y2 : ¬ S 0 ≤ sp) (y3 : ¬ ti < 0) (y4 : ¬ 30 < ti) {nt : Nat} (e8 : S 8 = nI nt) (hm : nt < 4) {ks : Nat} (hks : ks ≤ 4) (e0 : I 0 = nI ks) : Cd E mX4_addTeam (ml E D S Ps A K T N I hh w) [.ref D, .int sp, .int ti] (some (.int (nI nt))) (ml E D (standS (upd S 8 (nI (nt + 1))) nt sp ti) (psh Ps S ks) S K T N (upd (upd I 0 (nI (min 4 (ks + 1)))) 2 0) hh w) := by
  refine Cd.of RX4 rfl (by decide) [some (.ref D), some (.int sp), some (.int ti)] (Nat.le_of_ble_eq_true rfl) rfl (fun Γ h f hmn => ?_)
  refine v_aload_n (i := 0) h 0 1 dX4_addTeam_0 rfl rfl ld0 ?_
  refine v_iload_n (i := 1) h 1 2 dX4_addTeam_1 rfl rfl ld1 ?_
  refine v_callV1 h 2 5 dX4_addTeam_2 rfl cb_X4_isSpan cv_X4_isSpan ml_ob lk_X4_88 (rok (by decide) (by decide)) ⟨rfl, rfl⟩ ⟨Nat.zero_le _, Nat.zero_le _⟩ (k_isSpanY y1 y2) rfl rfl (Nat.le_of_ble_eq_true rfl) ?_
  refine v_if_ne h 5 8 14 dX4_addTeam_5 rfl (by decide) (fun h5 => ?_) (fun h5 => absurd h5 (by decide))
  refine v_iload_n (i := 2) h 14 15 dX4_addTeam_14 rfl rfl ld2 ?_
  refine v_iconst (v := 0) h 15 16 dX4_addTeam_15 rfl (by decide) ?_
  refine v_bipush (v := 30) h 16 18 dX4_addTeam_16 rfl (by decide) ?_
  refine v_callS1 h 18 21 dX4_addTeam_18 rfl cb_X4_in cs_X4_in lk_X4_95 (rok (by decide) (by decide)) ⟨rfl, rfl⟩ ⟨Nat.zero_le _, Nat.zero_le _⟩ (k_inY y3 y4) rfl rfl (Nat.le_of_ble_eq_true rfl) ?_
  refine v_if_ne h 21 24 30 dX4_addTeam_21 rfl (by decide) (fun h21 => ?_) (fun h21 => absurd h21 (by decide))
  refine v_aload_n (i := 0) h 30 31 dX4_addTeam_30 rfl rfl ld0 ?_
  refine v_get h 31 34 dX4_addTeam_31 rfl fo_X4_7 ml_ob rfl ?_
  refine v_bipush (v := nI 8) h 34 36 dX4_addTeam_34 rfl (by decide) ?_
  refine v_ildSm h 36 37 _ dX4_addTeam_36 rfl (by omega) ?_
  refine v_iconst (v := 4) h 37 38 dX4_addTeam_37 rfl (by decide) ?_
  refine v_icmp_ne h 38 41 47 dX4_addTeam_38 rfl (by decide) (fun h38 => ?_) (fun h38 => absurd (nI_inj (b := 4) (by omega) (by decide) (e8.symm.trans h38)) (by omega))
  refine v_aload_n (i := 0) h 47 48 dX4_addTeam_47 rfl rfl ld0 ?_
  refine v_callV0 h 48 51 dX4_addTeam_48 rfl cb_X4_hold cv_X4_hold ml_ob lk_X4_99 (rok (by decide) (by decide)) ⟨rfl, rfl⟩ ⟨Nat.zero_le _, Nat.zero_le _⟩ k_hold rfl rfl (Nat.le_of_ble_eq_true rfl) ?_
  refine v_aload_n (i := 0) h 51 52 dX4_addTeam_51 rfl rfl ld0 ?_
  refine v_iload_n (i := 1) h 52 53 dX4_addTeam_52 rfl rfl ld1 ?_
  refine v_iload_n (i := 2) h 53 54 dX4_addTeam_53 rfl rfl ld2 ?_
  refine v_callV0 h 54 57 dX4_addTeam_54 rfl cb_X4_addsTeam cv_X4_addsTeam ml_ob lk_X4_109 (rok (by decide) (by decide)) ⟨rfl, rfl⟩ ⟨Nat.zero_le _, Nat.zero_le _⟩ (k_addsTeam e8 hm _ _) rfl rfl (Nat.le_of_ble_eq_true rfl) ?_
  refine v_aload_n (i := 0) h 57 58 dX4_addTeam_57 rfl rfl ld0 ?_
  refine v_aload_n (i := 0) h 58 59 dX4_addTeam_58 rfl rfl ld0 ?_
  refine v_get h 59 62 dX4_addTeam_59 rfl fo_X4_7 ml_ob rfl ?_
  refine v_bipush (v := nI 8) h 62 64 dX4_addTeam_62 rfl (by decide) ?_
  refine v_ildSm h 64 65 _ dX4_addTeam_64 rfl (by omega) ?_
  rw [standS_ne (by omega), upd_self]
  refine v_iconst (v := 1) h 65 66 dX4_addTeam_65 rfl (by decide) ?_
  refine v_isub h 66 67 dX4_addTeam_66 rfl ?_
  rw [nI_pred]
  refine v_callV1 h 67 70 dX4_addTeam_67 rfl cb_X4_ends cv_X4_ends ml_ob lk_X4_106 (rok (by decide) (by decide)) ⟨rfl, rfl⟩ ⟨Nat.zero_le _, Nat.zero_le _⟩ (k_ends hks e0 _) rfl rfl (Nat.le_of_ble_eq_true rfl) ?_
  exact v_iret h 70 f dX4_addTeam_70 rfl (Nat.zero_le _) (Nat.zero_le _) rfl rfl

set_option maxRecDepth 100000 in
set_option maxHeartbeats 4000000 in
theorem r_setWay1 {E : EE} {D : Nat} {S : St} {Ps : Nat → St} {A K T N I : St} {hh : Int64} {w : Wo} {sp mi : Int32} (z : sp < 0 ∨ S 0 - 2 < sp) : Cd E mX4_setWay (ml E D S Ps A K T N I hh w) [.ref D, .int sp, .int mi] (some (.int 0)) (ml E D S Ps A K T N (upd I 2 1) hh w) := by
  refine Cd.of RX4 rfl (by decide) [some (.ref D), some (.int sp), some (.int mi), none] (Nat.le_of_ble_eq_true rfl) rfl (fun Γ h f hmn => ?_)
  refine v_iload_n (i := 1) h 0 1 dX4_setWay_0 rfl rfl ld1 ?_
  refine v_iconst (v := 0) h 1 2 dX4_setWay_1 rfl (by decide) ?_
  refine v_aload_n (i := 0) h 2 3 dX4_setWay_2 rfl rfl ld0 ?_
  refine v_get h 3 6 dX4_setWay_3 rfl fo_X4_7 ml_ob rfl ?_
  refine v_iconst (v := nI 0) h 6 7 dX4_setWay_6 rfl (by decide) ?_
  refine v_ildSm h 7 8 _ dX4_setWay_7 rfl (by omega) ?_
  refine v_iconst (v := 2) h 8 9 dX4_setWay_8 rfl (by decide) ?_
  refine v_isub h 9 10 dX4_setWay_9 rfl ?_
  refine v_callS1 h 10 13 dX4_setWay_10 rfl cb_X4_in cs_X4_in lk_X4_95 (rok (by decide) (by decide)) ⟨rfl, rfl⟩ ⟨Nat.zero_le _, Nat.zero_le _⟩ (k_inN z) rfl rfl (Nat.le_of_ble_eq_true rfl) ?_
  refine v_if_ne h 13 16 22 dX4_setWay_13 rfl (by decide) (fun h13 => absurd rfl h13) (fun h13 => ?_)
  refine v_aload_n (i := 0) h 16 17 dX4_setWay_16 rfl rfl ld0 ?_
  refine v_iconst (v := 1) h 17 18 dX4_setWay_17 rfl (by decide) ?_
  refine v_callV1 h 18 21 dX4_setWay_18 rfl cb_X4_fails cv_X4_fails ml_ob lk_X4_92 (rok (by decide) (by decide)) ⟨rfl, rfl⟩ ⟨Nat.zero_le _, Nat.zero_le _⟩ (k_fails _) rfl rfl (Nat.le_of_ble_eq_true rfl) ?_
  exact v_iret h 21 f dX4_setWay_21 rfl (Nat.zero_le _) (Nat.zero_le _) rfl rfl

set_option maxRecDepth 100000 in
set_option maxHeartbeats 4000000 in
theorem r_setWay2 {E : EE} {D : Nat} {S : St} {Ps : Nat → St} {A K T N I : St} {hh : Int64} {w : Wo} {sp mi : Int32} (y1 : ¬ sp < 0) (y2 : ¬ S 0 - 2 < sp) (z : mi < 1 ∨ 20 < mi) : Cd E mX4_setWay (ml E D S Ps A K T N I hh w) [.ref D, .int sp, .int mi] (some (.int 0)) (ml E D S Ps A K T N (upd I 2 2) hh w) := by
  refine Cd.of RX4 rfl (by decide) [some (.ref D), some (.int sp), some (.int mi), none] (Nat.le_of_ble_eq_true rfl) rfl (fun Γ h f hmn => ?_)
  refine v_iload_n (i := 1) h 0 1 dX4_setWay_0 rfl rfl ld1 ?_
  refine v_iconst (v := 0) h 1 2 dX4_setWay_1 rfl (by decide) ?_
  refine v_aload_n (i := 0) h 2 3 dX4_setWay_2 rfl rfl ld0 ?_
  refine v_get h 3 6 dX4_setWay_3 rfl fo_X4_7 ml_ob rfl ?_
  refine v_iconst (v := nI 0) h 6 7 dX4_setWay_6 rfl (by decide) ?_
  refine v_ildSm h 7 8 _ dX4_setWay_7 rfl (by omega) ?_
  refine v_iconst (v := 2) h 8 9 dX4_setWay_8 rfl (by decide) ?_
  refine v_isub h 9 10 dX4_setWay_9 rfl ?_
  refine v_callS1 h 10 13 dX4_setWay_10 rfl cb_X4_in cs_X4_in lk_X4_95 (rok (by decide) (by decide)) ⟨rfl, rfl⟩ ⟨Nat.zero_le _, Nat.zero_le _⟩ (k_inY y1 y2) rfl rfl (Nat.le_of_ble_eq_true rfl) ?_
  refine v_if_ne h 13 16 22 dX4_setWay_13 rfl (by decide) (fun h13 => ?_) (fun h13 => absurd h13 (by decide))
  refine v_iload_n (i := 2) h 22 23 dX4_setWay_22 rfl rfl ld2 ?_
  refine v_iconst (v := 1) h 23 24 dX4_setWay_23 rfl (by decide) ?_
  refine v_bipush (v := 20) h 24 26 dX4_setWay_24 rfl (by decide) ?_
  refine v_callS1 h 26 29 dX4_setWay_26 rfl cb_X4_in cs_X4_in lk_X4_95 (rok (by decide) (by decide)) ⟨rfl, rfl⟩ ⟨Nat.zero_le _, Nat.zero_le _⟩ (k_inN z) rfl rfl (Nat.le_of_ble_eq_true rfl) ?_
  refine v_if_ne h 29 32 38 dX4_setWay_29 rfl (by decide) (fun h29 => absurd rfl h29) (fun h29 => ?_)
  refine v_aload_n (i := 0) h 32 33 dX4_setWay_32 rfl rfl ld0 ?_
  refine v_iconst (v := 2) h 33 34 dX4_setWay_33 rfl (by decide) ?_
  refine v_callV1 h 34 37 dX4_setWay_34 rfl cb_X4_fails cv_X4_fails ml_ob lk_X4_92 (rok (by decide) (by decide)) ⟨rfl, rfl⟩ ⟨Nat.zero_le _, Nat.zero_le _⟩ (k_fails _) rfl rfl (Nat.le_of_ble_eq_true rfl) ?_
  exact v_iret h 37 f dX4_setWay_37 rfl (Nat.zero_le _) (Nat.zero_le _) rfl rfl

set_option maxRecDepth 100000 in
set_option maxHeartbeats 4000000 in
theorem r_setWay {E : EE} {D : Nat} {S : St} {Ps : Nat → St} {A K T N I : St} {hh : Int64} {w : Wo} {k : Nat} {mi : Int32} (y1 : ¬ nI k < 0) (y2 : ¬ S 0 - 2 < nI k) (hk : k < 6) (y3 : ¬ mi < 1) (y4 : ¬ 20 < mi) {ks : Nat} (hks : ks ≤ 4) (e0 : I 0 = nI ks) : Cd E mX4_setWay (ml E D S Ps A K T N I hh w) [.ref D, .int (nI k), .int mi] (some (.int (S (1 + k)))) (ml E D (upd S (1 + k) mi) (psh Ps S ks) S K T N (upd (upd I 0 (nI (min 4 (ks + 1)))) 2 0) hh w) := by
  refine Cd.of RX4 rfl (by decide) [some (.ref D), some (.int (nI k)), some (.int mi), none] (Nat.le_of_ble_eq_true rfl) rfl (fun Γ h f hmn => ?_)
  refine v_iload_n (i := 1) h 0 1 dX4_setWay_0 rfl rfl ld1 ?_
  refine v_iconst (v := 0) h 1 2 dX4_setWay_1 rfl (by decide) ?_
  refine v_aload_n (i := 0) h 2 3 dX4_setWay_2 rfl rfl ld0 ?_
  refine v_get h 3 6 dX4_setWay_3 rfl fo_X4_7 ml_ob rfl ?_
  refine v_iconst (v := nI 0) h 6 7 dX4_setWay_6 rfl (by decide) ?_
  refine v_ildSm h 7 8 _ dX4_setWay_7 rfl (by omega) ?_
  refine v_iconst (v := 2) h 8 9 dX4_setWay_8 rfl (by decide) ?_
  refine v_isub h 9 10 dX4_setWay_9 rfl ?_
  refine v_callS1 h 10 13 dX4_setWay_10 rfl cb_X4_in cs_X4_in lk_X4_95 (rok (by decide) (by decide)) ⟨rfl, rfl⟩ ⟨Nat.zero_le _, Nat.zero_le _⟩ (k_inY y1 y2) rfl rfl (Nat.le_of_ble_eq_true rfl) ?_
  refine v_if_ne h 13 16 22 dX4_setWay_13 rfl (by decide) (fun h13 => ?_) (fun h13 => absurd h13 (by decide))
  refine v_iload_n (i := 2) h 22 23 dX4_setWay_22 rfl rfl ld2 ?_
  refine v_iconst (v := 1) h 23 24 dX4_setWay_23 rfl (by decide) ?_
  refine v_bipush (v := 20) h 24 26 dX4_setWay_24 rfl (by decide) ?_
  refine v_callS1 h 26 29 dX4_setWay_26 rfl cb_X4_in cs_X4_in lk_X4_95 (rok (by decide) (by decide)) ⟨rfl, rfl⟩ ⟨Nat.zero_le _, Nat.zero_le _⟩ (k_inY y3 y4) rfl rfl (Nat.le_of_ble_eq_true rfl) ?_
  refine v_if_ne h 29 32 38 dX4_setWay_29 rfl (by decide) (fun h29 => ?_) (fun h29 => absurd h29 (by decide))
  refine v_aload_n (i := 0) h 38 39 dX4_setWay_38 rfl rfl ld0 ?_
  refine v_callV0 h 39 42 dX4_setWay_39 rfl cb_X4_hold cv_X4_hold ml_ob lk_X4_99 (rok (by decide) (by decide)) ⟨rfl, rfl⟩ ⟨Nat.zero_le _, Nat.zero_le _⟩ k_hold rfl rfl (Nat.le_of_ble_eq_true rfl) ?_
  refine v_aload_n (i := 0) h 42 43 dX4_setWay_42 rfl rfl ld0 ?_
  refine v_get h 43 46 dX4_setWay_43 rfl fo_X4_7 ml_ob rfl ?_
  refine v_iconst (v := nI 1) h 46 47 dX4_setWay_46 rfl (by decide) ?_
  refine v_iload_n (i := 1) h 47 48 dX4_setWay_47 rfl rfl ld1 ?_
  refine v_iadd h 48 49 dX4_setWay_48 rfl ?_
  rw [nI_add]
  refine v_ildSm h 49 50 _ dX4_setWay_49 rfl (by omega) ?_
  refine v_istore_n (i := 3) h 50 51 dX4_setWay_50 rfl rfl (by decide) (so3 rfl) ?_
  refine v_aload_n (i := 0) h 51 52 dX4_setWay_51 rfl rfl ld0 ?_
  refine v_get h 52 55 dX4_setWay_52 rfl fo_X4_7 ml_ob rfl ?_
  refine v_iconst (v := nI 1) h 55 56 dX4_setWay_55 rfl (by decide) ?_
  refine v_iload_n (i := 1) h 56 57 dX4_setWay_56 rfl rfl ld1 ?_
  refine v_iadd h 57 58 dX4_setWay_57 rfl ?_
  rw [nI_add]
  refine v_iload_n (i := 2) h 58 59 dX4_setWay_58 rfl rfl ld2 ?_
  refine v_istSm h 59 60 _ dX4_setWay_59 rfl (by omega) ?_
  refine v_aload_n (i := 0) h 60 61 dX4_setWay_60 rfl rfl ld0 ?_
  refine v_iload_n (i := 3) h 61 62 dX4_setWay_61 rfl rfl ld3 ?_
  refine v_callV1 h 62 65 dX4_setWay_62 rfl cb_X4_ends cv_X4_ends ml_ob lk_X4_106 (rok (by decide) (by decide)) ⟨rfl, rfl⟩ ⟨Nat.zero_le _, Nat.zero_le _⟩ (k_ends hks e0 _) rfl rfl (Nat.le_of_ble_eq_true rfl) ?_
  exact v_iret h 65 f dX4_setWay_65 rfl (Nat.zero_le _) (Nat.zero_le _) rfl rfl

set_option maxRecDepth 100000 in
set_option maxHeartbeats 4000000 in
theorem r_setCold1 {E : EE} {D : Nat} {S : St} {Ps : Nat → St} {A K T N I : St} {hh : Int64} {w : Wo} {i co : Int32} (z : i < 0 ∨ S 7 ≤ i) : Cd E mX4_setCold (ml E D S Ps A K T N I hh w) [.ref D, .int i, .int co] (some (.int 0)) (ml E D S Ps A K T N (upd I 2 1) hh w) := by
  refine Cd.of RX4 rfl (by decide) [some (.ref D), some (.int i), some (.int co), none] (Nat.le_of_ble_eq_true rfl) rfl (fun Γ h f hmn => ?_)
  refine v_aload_n (i := 0) h 0 1 dX4_setCold_0 rfl rfl ld0 ?_
  refine v_iload_n (i := 1) h 1 2 dX4_setCold_1 rfl rfl ld1 ?_
  refine v_callV1 h 2 5 dX4_setCold_2 rfl cb_X4_isChair cv_X4_isChair ml_ob lk_X4_113 (rok (by decide) (by decide)) ⟨rfl, rfl⟩ ⟨Nat.zero_le _, Nat.zero_le _⟩ (k_isChairN z) rfl rfl (Nat.le_of_ble_eq_true rfl) ?_
  refine v_if_ne h 5 8 14 dX4_setCold_5 rfl (by decide) (fun h5 => absurd rfl h5) (fun h5 => ?_)
  refine v_aload_n (i := 0) h 8 9 dX4_setCold_8 rfl rfl ld0 ?_
  refine v_iconst (v := 1) h 9 10 dX4_setCold_9 rfl (by decide) ?_
  refine v_callV1 h 10 13 dX4_setCold_10 rfl cb_X4_fails cv_X4_fails ml_ob lk_X4_92 (rok (by decide) (by decide)) ⟨rfl, rfl⟩ ⟨Nat.zero_le _, Nat.zero_le _⟩ (k_fails _) rfl rfl (Nat.le_of_ble_eq_true rfl) ?_
  exact v_iret h 13 f dX4_setCold_13 rfl (Nat.zero_le _) (Nat.zero_le _) rfl rfl

set_option maxRecDepth 100000 in
set_option maxHeartbeats 4000000 in
theorem r_setCold2 {E : EE} {D : Nat} {S : St} {Ps : Nat → St} {A K T N I : St} {hh : Int64} {w : Wo} {i co : Int32} (y1 : ¬ i < 0) (y2 : ¬ S 7 ≤ i) (z : co < 0 ∨ 20 < co) : Cd E mX4_setCold (ml E D S Ps A K T N I hh w) [.ref D, .int i, .int co] (some (.int 0)) (ml E D S Ps A K T N (upd I 2 2) hh w) := by
  refine Cd.of RX4 rfl (by decide) [some (.ref D), some (.int i), some (.int co), none] (Nat.le_of_ble_eq_true rfl) rfl (fun Γ h f hmn => ?_)
  refine v_aload_n (i := 0) h 0 1 dX4_setCold_0 rfl rfl ld0 ?_
  refine v_iload_n (i := 1) h 1 2 dX4_setCold_1 rfl rfl ld1 ?_
  refine v_callV1 h 2 5 dX4_setCold_2 rfl cb_X4_isChair cv_X4_isChair ml_ob lk_X4_113 (rok (by decide) (by decide)) ⟨rfl, rfl⟩ ⟨Nat.zero_le _, Nat.zero_le _⟩ (k_isChairY y1 y2) rfl rfl (Nat.le_of_ble_eq_true rfl) ?_
  refine v_if_ne h 5 8 14 dX4_setCold_5 rfl (by decide) (fun h5 => ?_) (fun h5 => absurd h5 (by decide))
  refine v_iload_n (i := 2) h 14 15 dX4_setCold_14 rfl rfl ld2 ?_
  refine v_iconst (v := 0) h 15 16 dX4_setCold_15 rfl (by decide) ?_
  refine v_bipush (v := 20) h 16 18 dX4_setCold_16 rfl (by decide) ?_
  refine v_callS1 h 18 21 dX4_setCold_18 rfl cb_X4_in cs_X4_in lk_X4_95 (rok (by decide) (by decide)) ⟨rfl, rfl⟩ ⟨Nat.zero_le _, Nat.zero_le _⟩ (k_inN z) rfl rfl (Nat.le_of_ble_eq_true rfl) ?_
  refine v_if_ne h 21 24 30 dX4_setCold_21 rfl (by decide) (fun h21 => absurd rfl h21) (fun h21 => ?_)
  refine v_aload_n (i := 0) h 24 25 dX4_setCold_24 rfl rfl ld0 ?_
  refine v_iconst (v := 2) h 25 26 dX4_setCold_25 rfl (by decide) ?_
  refine v_callV1 h 26 29 dX4_setCold_26 rfl cb_X4_fails cv_X4_fails ml_ob lk_X4_92 (rok (by decide) (by decide)) ⟨rfl, rfl⟩ ⟨Nat.zero_le _, Nat.zero_le _⟩ (k_fails _) rfl rfl (Nat.le_of_ble_eq_true rfl) ?_
  exact v_iret h 29 f dX4_setCold_29 rfl (Nat.zero_le _) (Nat.zero_le _) rfl rfl

set_option maxRecDepth 100000 in
set_option maxHeartbeats 4000000 in
theorem r_setCold3 {E : EE} {D : Nat} {S : St} {Ps : Nat → St} {A K T N I : St} {hh : Int64} {w : Wo} {c : Nat} {co : Int32} (hc : c < 14) (y1 : ¬ nI c < 0) (y2 : ¬ S 7 ≤ nI c) (y5 : ¬ co < 0) (y6 : ¬ 20 < co) (z : S (13 + 8 * c + 4) = 2) : Cd E mX4_setCold (ml E D S Ps A K T N I hh w) [.ref D, .int (nI c), .int co] (some (.int 0)) (ml E D S Ps A K T N (upd I 2 3) hh w) := by
  refine Cd.of RX4 rfl (by decide) [some (.ref D), some (.int (nI c)), some (.int co), none] (Nat.le_of_ble_eq_true rfl) rfl (fun Γ h f hmn => ?_)
  refine v_aload_n (i := 0) h 0 1 dX4_setCold_0 rfl rfl ld0 ?_
  refine v_iload_n (i := 1) h 1 2 dX4_setCold_1 rfl rfl ld1 ?_
  refine v_callV1 h 2 5 dX4_setCold_2 rfl cb_X4_isChair cv_X4_isChair ml_ob lk_X4_113 (rok (by decide) (by decide)) ⟨rfl, rfl⟩ ⟨Nat.zero_le _, Nat.zero_le _⟩ (k_isChairY y1 y2) rfl rfl (Nat.le_of_ble_eq_true rfl) ?_
  refine v_if_ne h 5 8 14 dX4_setCold_5 rfl (by decide) (fun h5 => ?_) (fun h5 => absurd h5 (by decide))
  refine v_iload_n (i := 2) h 14 15 dX4_setCold_14 rfl rfl ld2 ?_
  refine v_iconst (v := 0) h 15 16 dX4_setCold_15 rfl (by decide) ?_
  refine v_bipush (v := 20) h 16 18 dX4_setCold_16 rfl (by decide) ?_
  refine v_callS1 h 18 21 dX4_setCold_18 rfl cb_X4_in cs_X4_in lk_X4_95 (rok (by decide) (by decide)) ⟨rfl, rfl⟩ ⟨Nat.zero_le _, Nat.zero_le _⟩ (k_inY y5 y6) rfl rfl (Nat.le_of_ble_eq_true rfl) ?_
  refine v_if_ne h 21 24 30 dX4_setCold_21 rfl (by decide) (fun h21 => ?_) (fun h21 => absurd h21 (by decide))
  refine v_aload_n (i := 0) h 30 31 dX4_setCold_30 rfl rfl ld0 ?_
  refine v_iload_n (i := 1) h 31 32 dX4_setCold_31 rfl rfl ld1 ?_
  refine v_iconst (v := 4) h 32 33 dX4_setCold_32 rfl (by decide) ?_
  refine v_callV1 h 33 36 dX4_setCold_33 rfl cb_X4_of cv_X4_of ml_ob lk_X4_43 (rok (by decide) (by decide)) ⟨rfl, rfl⟩ ⟨Nat.zero_le _, Nat.zero_le _⟩ (k_of (c := c) (k := 4) (by omega) (by decide)) rfl rfl (Nat.le_of_ble_eq_true rfl) ?_
  refine v_iconst (v := 2) h 36 37 dX4_setCold_36 rfl (by decide) ?_
  refine v_icmp_ne h 37 40 46 dX4_setCold_37 rfl (by decide) (fun h37 => absurd z h37) (fun h37 => ?_)
  refine v_aload_n (i := 0) h 40 41 dX4_setCold_40 rfl rfl ld0 ?_
  refine v_iconst (v := 3) h 41 42 dX4_setCold_41 rfl (by decide) ?_
  refine v_callV1 h 42 45 dX4_setCold_42 rfl cb_X4_fails cv_X4_fails ml_ob lk_X4_92 (rok (by decide) (by decide)) ⟨rfl, rfl⟩ ⟨Nat.zero_le _, Nat.zero_le _⟩ (k_fails _) rfl rfl (Nat.le_of_ble_eq_true rfl) ?_
  exact v_iret h 45 f dX4_setCold_45 rfl (Nat.zero_le _) (Nat.zero_le _) rfl rfl

set_option maxRecDepth 100000 in
set_option maxHeartbeats 4000000 in
theorem r_setCold {E : EE} {D : Nat} {S : St} {Ps : Nat → St} {A K T N I : St} {hh : Int64} {w : Wo} {c : Nat} {co : Int32} (hc : c < 14) (y1 : ¬ nI c < 0) (y2 : ¬ S 7 ≤ nI c) (y5 : ¬ co < 0) (y6 : ¬ 20 < co) (y7 : ¬ S (13 + 8 * c + 4) = 2) {ks : Nat} (hks : ks ≤ 4) (e0 : I 0 = nI ks) : Cd E mX4_setCold (ml E D S Ps A K T N I hh w) [.ref D, .int (nI c), .int co] (some (.int (S (13 + 8 * c + 2)))) (ml E D (upd S (13 + 8 * c + 2) co) (psh Ps S ks) S K T N (upd (upd I 0 (nI (min 4 (ks + 1)))) 2 0) hh w) := by
  refine Cd.of RX4 rfl (by decide) [some (.ref D), some (.int (nI c)), some (.int co), none] (Nat.le_of_ble_eq_true rfl) rfl (fun Γ h f hmn => ?_)
  refine v_aload_n (i := 0) h 0 1 dX4_setCold_0 rfl rfl ld0 ?_
  refine v_iload_n (i := 1) h 1 2 dX4_setCold_1 rfl rfl ld1 ?_
  refine v_callV1 h 2 5 dX4_setCold_2 rfl cb_X4_isChair cv_X4_isChair ml_ob lk_X4_113 (rok (by decide) (by decide)) ⟨rfl, rfl⟩ ⟨Nat.zero_le _, Nat.zero_le _⟩ (k_isChairY y1 y2) rfl rfl (Nat.le_of_ble_eq_true rfl) ?_
  refine v_if_ne h 5 8 14 dX4_setCold_5 rfl (by decide) (fun h5 => ?_) (fun h5 => absurd h5 (by decide))
  refine v_iload_n (i := 2) h 14 15 dX4_setCold_14 rfl rfl ld2 ?_
  refine v_iconst (v := 0) h 15 16 dX4_setCold_15 rfl (by decide) ?_
  refine v_bipush (v := 20) h 16 18 dX4_setCold_16 rfl (by decide) ?_
  refine v_callS1 h 18 21 dX4_setCold_18 rfl cb_X4_in cs_X4_in lk_X4_95 (rok (by decide) (by decide)) ⟨rfl, rfl⟩ ⟨Nat.zero_le _, Nat.zero_le _⟩ (k_inY y5 y6) rfl rfl (Nat.le_of_ble_eq_true rfl) ?_
  refine v_if_ne h 21 24 30 dX4_setCold_21 rfl (by decide) (fun h21 => ?_) (fun h21 => absurd h21 (by decide))
  refine v_aload_n (i := 0) h 30 31 dX4_setCold_30 rfl rfl ld0 ?_
  refine v_iload_n (i := 1) h 31 32 dX4_setCold_31 rfl rfl ld1 ?_
  refine v_iconst (v := 4) h 32 33 dX4_setCold_32 rfl (by decide) ?_
  refine v_callV1 h 33 36 dX4_setCold_33 rfl cb_X4_of cv_X4_of ml_ob lk_X4_43 (rok (by decide) (by decide)) ⟨rfl, rfl⟩ ⟨Nat.zero_le _, Nat.zero_le _⟩ (k_of (c := c) (k := 4) (by omega) (by decide)) rfl rfl (Nat.le_of_ble_eq_true rfl) ?_
  refine v_iconst (v := 2) h 36 37 dX4_setCold_36 rfl (by decide) ?_
  refine v_icmp_ne h 37 40 46 dX4_setCold_37 rfl (by decide) (fun h37 => ?_) (fun h37 => absurd h37 y7)
  refine v_aload_n (i := 0) h 46 47 dX4_setCold_46 rfl rfl ld0 ?_
  refine v_callV0 h 47 50 dX4_setCold_47 rfl cb_X4_hold cv_X4_hold ml_ob lk_X4_99 (rok (by decide) (by decide)) ⟨rfl, rfl⟩ ⟨Nat.zero_le _, Nat.zero_le _⟩ k_hold rfl rfl (Nat.le_of_ble_eq_true rfl) ?_
  refine v_aload_n (i := 0) h 50 51 dX4_setCold_50 rfl rfl ld0 ?_
  refine v_iload_n (i := 1) h 51 52 dX4_setCold_51 rfl rfl ld1 ?_
  refine v_iconst (v := 2) h 52 53 dX4_setCold_52 rfl (by decide) ?_
  refine v_callV1 h 53 56 dX4_setCold_53 rfl cb_X4_of cv_X4_of ml_ob lk_X4_43 (rok (by decide) (by decide)) ⟨rfl, rfl⟩ ⟨Nat.zero_le _, Nat.zero_le _⟩ (k_of (c := c) (k := 2) (by omega) (by decide)) rfl rfl (Nat.le_of_ble_eq_true rfl) ?_
  refine v_istore_n (i := 3) h 56 57 dX4_setCold_56 rfl rfl (by decide) (so3 rfl) ?_
  refine v_aload_n (i := 0) h 57 58 dX4_setCold_57 rfl rfl ld0 ?_
  refine v_iload_n (i := 1) h 58 59 dX4_setCold_58 rfl rfl ld1 ?_
  refine v_iconst (v := 2) h 59 60 dX4_setCold_59 rfl (by decide) ?_
  refine v_iload_n (i := 2) h 60 61 dX4_setCold_60 rfl rfl ld2 ?_
  refine v_callV0 h 61 64 dX4_setCold_61 rfl cb_X4_puts cv_X4_puts ml_ob lk_X4_60 (rok (by decide) (by decide)) ⟨rfl, rfl⟩ ⟨Nat.zero_le _, Nat.zero_le _⟩ (k_puts (c := c) (k := 2) (by omega) (by decide) _) rfl rfl (Nat.le_of_ble_eq_true rfl) ?_
  refine v_aload_n (i := 0) h 64 65 dX4_setCold_64 rfl rfl ld0 ?_
  refine v_iload_n (i := 3) h 65 66 dX4_setCold_65 rfl rfl ld3 ?_
  refine v_callV1 h 66 69 dX4_setCold_66 rfl cb_X4_ends cv_X4_ends ml_ob lk_X4_106 (rok (by decide) (by decide)) ⟨rfl, rfl⟩ ⟨Nat.zero_le _, Nat.zero_le _⟩ (k_ends hks e0 _) rfl rfl (Nat.le_of_ble_eq_true rfl) ?_
  exact v_iret h 69 f dX4_setCold_69 rfl (Nat.zero_le _) (Nat.zero_le _) rfl rfl

set_option maxRecDepth 100000 in
set_option maxHeartbeats 4000000 in
theorem r_callOff1 {E : EE} {D : Nat} {S : St} {Ps : Nat → St} {A K T N I : St} {hh : Int64} {w : Wo} {i : Int32} (z : i < 0 ∨ S 8 ≤ i) : Cd E mX4_callOff (ml E D S Ps A K T N I hh w) [.ref D, .int i] (some (.int 0)) (ml E D S Ps A K T N (upd I 2 1) hh w) := by
  refine Cd.of RX4 rfl (by decide) [some (.ref D), some (.int i), none] (Nat.le_of_ble_eq_true rfl) rfl (fun Γ h f hmn => ?_)
  refine v_aload_n (i := 0) h 0 1 dX4_callOff_0 rfl rfl ld0 ?_
  refine v_iload_n (i := 1) h 1 2 dX4_callOff_1 rfl rfl ld1 ?_
  refine v_callV1 h 2 5 dX4_callOff_2 rfl cb_X4_isTeam cv_X4_isTeam ml_ob lk_X4_116 (rok (by decide) (by decide)) ⟨rfl, rfl⟩ ⟨Nat.zero_le _, Nat.zero_le _⟩ (k_isTeamN z) rfl rfl (Nat.le_of_ble_eq_true rfl) ?_
  refine v_if_ne h 5 8 14 dX4_callOff_5 rfl (by decide) (fun h5 => absurd rfl h5) (fun h5 => ?_)
  refine v_aload_n (i := 0) h 8 9 dX4_callOff_8 rfl rfl ld0 ?_
  refine v_iconst (v := 1) h 9 10 dX4_callOff_9 rfl (by decide) ?_
  refine v_callV1 h 10 13 dX4_callOff_10 rfl cb_X4_fails cv_X4_fails ml_ob lk_X4_92 (rok (by decide) (by decide)) ⟨rfl, rfl⟩ ⟨Nat.zero_le _, Nat.zero_le _⟩ (k_fails _) rfl rfl (Nat.le_of_ble_eq_true rfl) ?_
  exact v_iret h 13 f dX4_callOff_13 rfl (Nat.zero_le _) (Nat.zero_le _) rfl rfl

set_option maxRecDepth 100000 in
set_option maxHeartbeats 4000000 in
theorem r_callOff0 {E : EE} {D : Nat} {S : St} {Ps : Nat → St} {A K T N I : St} {hh : Int64} {w : Wo} {t : Nat} (ht : t < 4) (y1 : ¬ nI t < 0) (y2 : ¬ S 8 ≤ nI t) (e4 : S (125 + 8 * t + 4) = -1) {ks : Nat} (hks : ks ≤ 4) (e0 : I 0 = nI ks) : Cd E mX4_callOff (ml E D S Ps A K T N I hh w) [.ref D, .int (nI t)] (some (.int (-1))) (ml E D (idleS S t) (psh Ps S ks) S K T N (upd (upd I 0 (nI (min 4 (ks + 1)))) 2 0) hh w) := by
  refine Cd.of RX4 rfl (by decide) [some (.ref D), some (.int (nI t)), none] (Nat.le_of_ble_eq_true rfl) rfl (fun Γ h f hmn => ?_)
  refine v_aload_n (i := 0) h 0 1 dX4_callOff_0 rfl rfl ld0 ?_
  refine v_iload_n (i := 1) h 1 2 dX4_callOff_1 rfl rfl ld1 ?_
  refine v_callV1 h 2 5 dX4_callOff_2 rfl cb_X4_isTeam cv_X4_isTeam ml_ob lk_X4_116 (rok (by decide) (by decide)) ⟨rfl, rfl⟩ ⟨Nat.zero_le _, Nat.zero_le _⟩ (k_isTeamY y1 y2) rfl rfl (Nat.le_of_ble_eq_true rfl) ?_
  refine v_if_ne h 5 8 14 dX4_callOff_5 rfl (by decide) (fun h5 => ?_) (fun h5 => absurd h5 (by decide))
  refine v_aload_n (i := 0) h 14 15 dX4_callOff_14 rfl rfl ld0 ?_
  refine v_callV0 h 15 18 dX4_callOff_15 rfl cb_X4_hold cv_X4_hold ml_ob lk_X4_99 (rok (by decide) (by decide)) ⟨rfl, rfl⟩ ⟨Nat.zero_le _, Nat.zero_le _⟩ k_hold rfl rfl (Nat.le_of_ble_eq_true rfl) ?_
  refine v_aload_n (i := 0) h 18 19 dX4_callOff_18 rfl rfl ld0 ?_
  refine v_iload_n (i := 1) h 19 20 dX4_callOff_19 rfl rfl ld1 ?_
  refine v_iconst (v := 4) h 20 21 dX4_callOff_20 rfl (by decide) ?_
  refine v_callV1 h 21 24 dX4_callOff_21 rfl cb_X4_ofTeam cv_X4_ofTeam ml_ob lk_X4_47 (rok (by decide) (by decide)) ⟨rfl, rfl⟩ ⟨Nat.zero_le _, Nat.zero_le _⟩ (k_ofTeam (c := t) (k := 4) (by omega) (by decide)) rfl rfl (Nat.le_of_ble_eq_true rfl) ?_
  rw [e4]
  refine v_istore_n (i := 2) h 24 25 dX4_callOff_24 rfl rfl (by decide) (so2 rfl) ?_
  refine v_iload_n (i := 2) h 25 26 dX4_callOff_25 rfl rfl ld2 ?_
  refine v_iconst (v := (-1)) h 26 27 dX4_callOff_26 rfl (by decide) ?_
  refine v_icmp_eq h 27 30 44 dX4_callOff_27 rfl (by decide) (fun h27 => ?_) (fun h27 => absurd rfl h27)
  refine v_aload_n (i := 0) h 44 45 dX4_callOff_44 rfl rfl ld0 ?_
  refine v_iload_n (i := 1) h 45 46 dX4_callOff_45 rfl rfl ld1 ?_
  refine v_iconst (v := 4) h 46 47 dX4_callOff_46 rfl (by decide) ?_
  refine v_iconst (v := (-1)) h 47 48 dX4_callOff_47 rfl (by decide) ?_
  refine v_callV0 h 48 51 dX4_callOff_48 rfl cb_X4_putsTeam cv_X4_putsTeam ml_ob lk_X4_56 (rok (by decide) (by decide)) ⟨rfl, rfl⟩ ⟨Nat.zero_le _, Nat.zero_le _⟩ (k_putsTeam (c := t) (k := 4) (by omega) (by decide) _) rfl rfl (Nat.le_of_ble_eq_true rfl) ?_
  refine v_aload_n (i := 0) h 51 52 dX4_callOff_51 rfl rfl ld0 ?_
  refine v_iload_n (i := 1) h 52 53 dX4_callOff_52 rfl rfl ld1 ?_
  refine v_iconst (v := 0) h 53 54 dX4_callOff_53 rfl (by decide) ?_
  refine v_iconst (v := 0) h 54 55 dX4_callOff_54 rfl (by decide) ?_
  refine v_callV0 h 55 58 dX4_callOff_55 rfl cb_X4_begins cv_X4_begins ml_ob lk_X4_63 (rok (by decide) (by decide)) ⟨rfl, rfl⟩ ⟨Nat.zero_le _, Nat.zero_le _⟩ (k_begins ht _ _) rfl rfl (Nat.le_of_ble_eq_true rfl) ?_
  refine v_aload_n (i := 0) h 58 59 dX4_callOff_58 rfl rfl ld0 ?_
  refine v_iload_n (i := 2) h 59 60 dX4_callOff_59 rfl rfl ld2 ?_
  refine v_callV1 h 60 63 dX4_callOff_60 rfl cb_X4_ends cv_X4_ends ml_ob lk_X4_106 (rok (by decide) (by decide)) ⟨rfl, rfl⟩ ⟨Nat.zero_le _, Nat.zero_le _⟩ (k_ends hks e0 _) rfl rfl (Nat.le_of_ble_eq_true rfl) ?_
  refine v_iret h 63 f dX4_callOff_63 rfl (Nat.zero_le _) (Nat.zero_le _) ?_ ?_
  · rfl
  · refine congrArg (fun z => ml E D z (psh Ps S ks) S K T N (upd (upd I 0 (nI (min 4 (ks + 1)))) 2 0) hh w) ?_
    unfold idleS
    funext i
    by_cases q0 : i = 125 + 8 * t + 2
    · subst q0
      simp (disch := omega) only [upd_self, upd_ne]
    by_cases q1 : i = 125 + 8 * t + 3
    · subst q1
      simp (disch := omega) only [upd_self, upd_ne]
    by_cases q2 : i = 125 + 8 * t + 4
    · subst q2
      simp (disch := omega) only [upd_self, upd_ne]
    simp (disch := omega) only [upd_ne]

set_option maxRecDepth 100000 in
set_option maxHeartbeats 4000000 in
theorem r_callOff {E : EE} {D : Nat} {S : St} {Ps : Nat → St} {A K T N I : St} {hh : Int64} {w : Wo} {t c : Nat} (ht : t < 4) (hc : c < 14) (y1 : ¬ nI t < 0) (y2 : ¬ S 8 ≤ nI t) (e4 : S (125 + 8 * t + 4) = nI c) {ks : Nat} (hks : ks ≤ 4) (e0 : I 0 = nI ks) : Cd E mX4_callOff (ml E D S Ps A K T N I hh w) [.ref D, .int (nI t)] (some (.int (nI c))) (ml E D (idleS (waitS S c) t) (psh Ps S ks) S K T N (upd (upd I 0 (nI (min 4 (ks + 1)))) 2 0) hh w) := by
  refine Cd.of RX4 rfl (by decide) [some (.ref D), some (.int (nI t)), none] (Nat.le_of_ble_eq_true rfl) rfl (fun Γ h f hmn => ?_)
  refine v_aload_n (i := 0) h 0 1 dX4_callOff_0 rfl rfl ld0 ?_
  refine v_iload_n (i := 1) h 1 2 dX4_callOff_1 rfl rfl ld1 ?_
  refine v_callV1 h 2 5 dX4_callOff_2 rfl cb_X4_isTeam cv_X4_isTeam ml_ob lk_X4_116 (rok (by decide) (by decide)) ⟨rfl, rfl⟩ ⟨Nat.zero_le _, Nat.zero_le _⟩ (k_isTeamY y1 y2) rfl rfl (Nat.le_of_ble_eq_true rfl) ?_
  refine v_if_ne h 5 8 14 dX4_callOff_5 rfl (by decide) (fun h5 => ?_) (fun h5 => absurd h5 (by decide))
  refine v_aload_n (i := 0) h 14 15 dX4_callOff_14 rfl rfl ld0 ?_
  refine v_callV0 h 15 18 dX4_callOff_15 rfl cb_X4_hold cv_X4_hold ml_ob lk_X4_99 (rok (by decide) (by decide)) ⟨rfl, rfl⟩ ⟨Nat.zero_le _, Nat.zero_le _⟩ k_hold rfl rfl (Nat.le_of_ble_eq_true rfl) ?_
  refine v_aload_n (i := 0) h 18 19 dX4_callOff_18 rfl rfl ld0 ?_
  refine v_iload_n (i := 1) h 19 20 dX4_callOff_19 rfl rfl ld1 ?_
  refine v_iconst (v := 4) h 20 21 dX4_callOff_20 rfl (by decide) ?_
  refine v_callV1 h 21 24 dX4_callOff_21 rfl cb_X4_ofTeam cv_X4_ofTeam ml_ob lk_X4_47 (rok (by decide) (by decide)) ⟨rfl, rfl⟩ ⟨Nat.zero_le _, Nat.zero_le _⟩ (k_ofTeam (c := t) (k := 4) (by omega) (by decide)) rfl rfl (Nat.le_of_ble_eq_true rfl) ?_
  rw [e4]
  refine v_istore_n (i := 2) h 24 25 dX4_callOff_24 rfl rfl (by decide) (so2 rfl) ?_
  refine v_iload_n (i := 2) h 25 26 dX4_callOff_25 rfl rfl ld2 ?_
  refine v_iconst (v := (-1)) h 26 27 dX4_callOff_26 rfl (by decide) ?_
  refine v_icmp_eq h 27 30 44 dX4_callOff_27 rfl (by decide) (fun h27 => absurd h27 (nI_ne_m1 (by omega))) (fun h27 => ?_)
  refine v_aload_n (i := 0) h 30 31 dX4_callOff_30 rfl rfl ld0 ?_
  refine v_iload_n (i := 2) h 31 32 dX4_callOff_31 rfl rfl ld2 ?_
  refine v_iconst (v := 4) h 32 33 dX4_callOff_32 rfl (by decide) ?_
  refine v_iconst (v := 0) h 33 34 dX4_callOff_33 rfl (by decide) ?_
  refine v_callV0 h 34 37 dX4_callOff_34 rfl cb_X4_puts cv_X4_puts ml_ob lk_X4_60 (rok (by decide) (by decide)) ⟨rfl, rfl⟩ ⟨Nat.zero_le _, Nat.zero_le _⟩ (k_puts (c := c) (k := 4) (by omega) (by decide) _) rfl rfl (Nat.le_of_ble_eq_true rfl) ?_
  refine v_aload_n (i := 0) h 37 38 dX4_callOff_37 rfl rfl ld0 ?_
  refine v_iload_n (i := 2) h 38 39 dX4_callOff_38 rfl rfl ld2 ?_
  refine v_iconst (v := 5) h 39 40 dX4_callOff_39 rfl (by decide) ?_
  refine v_iconst (v := (-1)) h 40 41 dX4_callOff_40 rfl (by decide) ?_
  refine v_callV0 h 41 44 dX4_callOff_41 rfl cb_X4_puts cv_X4_puts ml_ob lk_X4_60 (rok (by decide) (by decide)) ⟨rfl, rfl⟩ ⟨Nat.zero_le _, Nat.zero_le _⟩ (k_puts (c := c) (k := 5) (by omega) (by decide) _) rfl rfl (Nat.le_of_ble_eq_true rfl) ?_
  refine v_aload_n (i := 0) h 44 45 dX4_callOff_44 rfl rfl ld0 ?_
  refine v_iload_n (i := 1) h 45 46 dX4_callOff_45 rfl rfl ld1 ?_
  refine v_iconst (v := 4) h 46 47 dX4_callOff_46 rfl (by decide) ?_
  refine v_iconst (v := (-1)) h 47 48 dX4_callOff_47 rfl (by decide) ?_
  refine v_callV0 h 48 51 dX4_callOff_48 rfl cb_X4_putsTeam cv_X4_putsTeam ml_ob lk_X4_56 (rok (by decide) (by decide)) ⟨rfl, rfl⟩ ⟨Nat.zero_le _, Nat.zero_le _⟩ (k_putsTeam (c := t) (k := 4) (by omega) (by decide) _) rfl rfl (Nat.le_of_ble_eq_true rfl) ?_
  refine v_aload_n (i := 0) h 51 52 dX4_callOff_51 rfl rfl ld0 ?_
  refine v_iload_n (i := 1) h 52 53 dX4_callOff_52 rfl rfl ld1 ?_
  refine v_iconst (v := 0) h 53 54 dX4_callOff_53 rfl (by decide) ?_
  refine v_iconst (v := 0) h 54 55 dX4_callOff_54 rfl (by decide) ?_
  refine v_callV0 h 55 58 dX4_callOff_55 rfl cb_X4_begins cv_X4_begins ml_ob lk_X4_63 (rok (by decide) (by decide)) ⟨rfl, rfl⟩ ⟨Nat.zero_le _, Nat.zero_le _⟩ (k_begins ht _ _) rfl rfl (Nat.le_of_ble_eq_true rfl) ?_
  refine v_aload_n (i := 0) h 58 59 dX4_callOff_58 rfl rfl ld0 ?_
  refine v_iload_n (i := 2) h 59 60 dX4_callOff_59 rfl rfl ld2 ?_
  refine v_callV1 h 60 63 dX4_callOff_60 rfl cb_X4_ends cv_X4_ends ml_ob lk_X4_106 (rok (by decide) (by decide)) ⟨rfl, rfl⟩ ⟨Nat.zero_le _, Nat.zero_le _⟩ (k_ends hks e0 _) rfl rfl (Nat.le_of_ble_eq_true rfl) ?_
  refine v_iret h 63 f dX4_callOff_63 rfl (Nat.zero_le _) (Nat.zero_le _) ?_ ?_
  · rfl
  · refine congrArg (fun z => ml E D z (psh Ps S ks) S K T N (upd (upd I 0 (nI (min 4 (ks + 1)))) 2 0) hh w) ?_
    unfold idleS waitS
    funext i
    by_cases q0 : i = 125 + 8 * t + 2
    · subst q0
      simp (disch := omega) only [upd_self, upd_ne]
    by_cases q1 : i = 125 + 8 * t + 3
    · subst q1
      simp (disch := omega) only [upd_self, upd_ne]
    by_cases q2 : i = 125 + 8 * t + 4
    · subst q2
      simp (disch := omega) only [upd_self, upd_ne]
    by_cases q3 : i = 13 + 8 * c + 4
    · subst q3
      simp (disch := omega) only [upd_self, upd_ne]
    by_cases q4 : i = 13 + 8 * c + 5
    · subst q4
      simp (disch := omega) only [upd_self, upd_ne]
    simp (disch := omega) only [upd_ne]

def pasS (nc nt : Nat) (S : St) (m : Nat) : Nat → St
  | 0 => S
  | k + 1 => minS (pasS nc nt S m k) (m + k) nc nt
theorem inv_pas {S : St} {sp nc nt ne m : Nat} (h : Inv S sp nc nt ne m) : ∀ k, ∃ ne', Inv (pasS nc nt S m k) sp nc nt ne' (m + k) := by
  intro k
  induction k with
  | zero => exact ⟨ne, h⟩
  | succ k ih =>
    obtain ⟨ne', hb⟩ := ih
    exact inv_min hb
set_option maxRecDepth 100000 in
set_option maxHeartbeats 4000000 in
theorem r_pass1 {E : EE} {D : Nat} {S : St} {Ps : Nat → St} {A K T N I : St} {hh : Int64} {w : Wo} {x : Int32} (z : x < 1 ∨ 500 < x) : Cd E mX4_pass (ml E D S Ps A K T N I hh w) [.ref D, .int x] (some (.int 0)) (ml E D S Ps A K T N (upd I 2 1) hh w) := by
  refine Cd.of RX4 rfl (by decide) [some (.ref D), some (.int x), none, none] (Nat.le_of_ble_eq_true rfl) rfl (fun Γ h f hmn => ?_)
  refine v_iload_n (i := 1) h 0 1 dX4_pass_0 rfl rfl ld1 ?_
  refine v_iconst (v := 1) h 1 2 dX4_pass_1 rfl (by decide) ?_
  refine v_sipush (v := 500) h 2 5 dX4_pass_2 rfl (by decide) ?_
  refine v_callS1 h 5 8 dX4_pass_5 rfl cb_X4_in cs_X4_in lk_X4_95 (rok (by decide) (by decide)) ⟨rfl, rfl⟩ ⟨Nat.zero_le _, Nat.zero_le _⟩ (k_inN z) rfl rfl (Nat.le_of_ble_eq_true rfl) ?_
  refine v_if_ne h 8 11 17 dX4_pass_8 rfl (by decide) (fun h8 => absurd rfl h8) (fun h8 => ?_)
  refine v_aload_n (i := 0) h 11 12 dX4_pass_11 rfl rfl ld0 ?_
  refine v_iconst (v := 1) h 12 13 dX4_pass_12 rfl (by decide) ?_
  refine v_callV1 h 13 16 dX4_pass_13 rfl cb_X4_fails cv_X4_fails ml_ob lk_X4_92 (rok (by decide) (by decide)) ⟨rfl, rfl⟩ ⟨Nat.zero_le _, Nat.zero_le _⟩ (k_fails _) rfl rfl (Nat.le_of_ble_eq_true rfl) ?_
  exact v_iret h 16 f dX4_pass_16 rfl (Nat.zero_le _) (Nat.zero_le _) rfl rfl

set_option maxRecDepth 100000 in
set_option maxHeartbeats 4000000 in
theorem r_pass2 {E : EE} {D : Nat} {S : St} {Ps : Nat → St} {A K T N I : St} {hh : Int64} {w : Wo} {x : Int32} (y1 : ¬ x < 1) (y2 : ¬ 500 < x) (z : ¬ S 9 + x ≤ 5000) : Cd E mX4_pass (ml E D S Ps A K T N I hh w) [.ref D, .int x] (some (.int 0)) (ml E D S Ps A K T N (upd I 2 2) hh w) := by
  refine Cd.of RX4 rfl (by decide) [some (.ref D), some (.int x), none, none] (Nat.le_of_ble_eq_true rfl) rfl (fun Γ h f hmn => ?_)
  refine v_iload_n (i := 1) h 0 1 dX4_pass_0 rfl rfl ld1 ?_
  refine v_iconst (v := 1) h 1 2 dX4_pass_1 rfl (by decide) ?_
  refine v_sipush (v := 500) h 2 5 dX4_pass_2 rfl (by decide) ?_
  refine v_callS1 h 5 8 dX4_pass_5 rfl cb_X4_in cs_X4_in lk_X4_95 (rok (by decide) (by decide)) ⟨rfl, rfl⟩ ⟨Nat.zero_le _, Nat.zero_le _⟩ (k_inY y1 y2) rfl rfl (Nat.le_of_ble_eq_true rfl) ?_
  refine v_if_ne h 8 11 17 dX4_pass_8 rfl (by decide) (fun h8 => ?_) (fun h8 => absurd h8 (by decide))
  refine v_aload_n (i := 0) h 17 18 dX4_pass_17 rfl rfl ld0 ?_
  refine v_get h 18 21 dX4_pass_18 rfl fo_X4_7 ml_ob rfl ?_
  refine v_bipush (v := nI 9) h 21 23 dX4_pass_21 rfl (by decide) ?_
  refine v_ildSm h 23 24 _ dX4_pass_23 rfl (by omega) ?_
  refine v_iload_n (i := 1) h 24 25 dX4_pass_24 rfl rfl ld1 ?_
  refine v_iadd h 25 26 dX4_pass_25 rfl ?_
  refine v_sipush (v := 5000) h 26 29 dX4_pass_26 rfl (by decide) ?_
  refine v_icmp_le h 29 32 38 dX4_pass_29 rfl (by decide) (fun h29 => absurd h29 z) (fun h29 => ?_)
  refine v_aload_n (i := 0) h 32 33 dX4_pass_32 rfl rfl ld0 ?_
  refine v_iconst (v := 2) h 33 34 dX4_pass_33 rfl (by decide) ?_
  refine v_callV1 h 34 37 dX4_pass_34 rfl cb_X4_fails cv_X4_fails ml_ob lk_X4_92 (rok (by decide) (by decide)) ⟨rfl, rfl⟩ ⟨Nat.zero_le _, Nat.zero_le _⟩ (k_fails _) rfl rfl (Nat.le_of_ble_eq_true rfl) ?_
  exact v_iret h 37 f dX4_pass_37 rfl (Nat.zero_le _) (Nat.zero_le _) rfl rfl

set_option maxRecDepth 100000 in
set_option maxHeartbeats 4000000 in
theorem r_pass {E : EE} {D : Nat} {S : St} {Ps : Nat → St} {A K T N I : St} {hh : Int64} {w : Wo} {k : Nat} {sp nc nt ne m : Nat} (hI : Inv S sp nc nt ne m) (y1 : ¬ nI k < 1) (y2 : ¬ 500 < nI k) (y3 : S 9 + nI k ≤ 5000) (hk : k ≤ 500) (hm : m ≤ 5000) {ks : Nat} (hks : ks ≤ 4) (e0 : I 0 = nI ks) : Cd E mX4_pass (ml E D S Ps A K T N I hh w) [.ref D, .int (nI k)] (some (.int (pasS nc nt S m k 12 - S 12))) (ml E D (pasS nc nt S m k) (psh Ps S ks) S K T N (upd (upd I 0 (nI (min 4 (ks + 1)))) 2 0) hh w) := by
  refine Cd.of RX4 rfl (by decide) [some (.ref D), some (.int (nI k)), none, none] (Nat.le_of_ble_eq_true rfl) rfl (fun Γ h f hmn => ?_)
  refine v_iload_n (i := 1) h 0 1 dX4_pass_0 rfl rfl ld1 ?_
  refine v_iconst (v := 1) h 1 2 dX4_pass_1 rfl (by decide) ?_
  refine v_sipush (v := 500) h 2 5 dX4_pass_2 rfl (by decide) ?_
  refine v_callS1 h 5 8 dX4_pass_5 rfl cb_X4_in cs_X4_in lk_X4_95 (rok (by decide) (by decide)) ⟨rfl, rfl⟩ ⟨Nat.zero_le _, Nat.zero_le _⟩ (k_inY y1 y2) rfl rfl (Nat.le_of_ble_eq_true rfl) ?_
  refine v_if_ne h 8 11 17 dX4_pass_8 rfl (by decide) (fun h8 => ?_) (fun h8 => absurd h8 (by decide))
  refine v_aload_n (i := 0) h 17 18 dX4_pass_17 rfl rfl ld0 ?_
  refine v_get h 18 21 dX4_pass_18 rfl fo_X4_7 ml_ob rfl ?_
  refine v_bipush (v := nI 9) h 21 23 dX4_pass_21 rfl (by decide) ?_
  refine v_ildSm h 23 24 _ dX4_pass_23 rfl (by omega) ?_
  refine v_iload_n (i := 1) h 24 25 dX4_pass_24 rfl rfl ld1 ?_
  refine v_iadd h 25 26 dX4_pass_25 rfl ?_
  refine v_sipush (v := 5000) h 26 29 dX4_pass_26 rfl (by decide) ?_
  refine v_icmp_le h 29 32 38 dX4_pass_29 rfl (by decide) (fun h29 => ?_) (fun h29 => absurd y3 h29)
  refine v_aload_n (i := 0) h 38 39 dX4_pass_38 rfl rfl ld0 ?_
  refine v_callV0 h 39 42 dX4_pass_39 rfl cb_X4_hold cv_X4_hold ml_ob lk_X4_99 (rok (by decide) (by decide)) ⟨rfl, rfl⟩ ⟨Nat.zero_le _, Nat.zero_le _⟩ k_hold rfl rfl (Nat.le_of_ble_eq_true rfl) ?_
  refine v_aload_n (i := 0) h 42 43 dX4_pass_42 rfl rfl ld0 ?_
  refine v_get h 43 46 dX4_pass_43 rfl fo_X4_7 ml_ob rfl ?_
  refine v_bipush (v := nI 12) h 46 48 dX4_pass_46 rfl (by decide) ?_
  refine v_ildSm h 48 49 _ dX4_pass_48 rfl (by omega) ?_
  refine v_istore_n (i := 2) h 49 50 dX4_pass_49 rfl rfl (by decide) (so2 rfl) ?_
  refine v_iconst (v := 0) h 50 51 dX4_pass_50 rfl (by decide) ?_
  refine v_istore_n (i := 3) h 51 52 dX4_pass_51 rfl rfl (by decide) (so3 rfl) ?_
  have loop52 : ∀ d j, j + d = k → V E Γ 0 0 52 [some (.ref D), some (.int (nI k)), some (.int (S 12)), some (.int (nI j))] [] (ml E D (pasS nc nt S m j) Ps S K T N I hh w) := by
    intro d
    induction d with
    | zero =>
      intro j hj
      obtain rfl : j = k := by omega
      refine v_iload_n (i := 3) h 52 53 dX4_pass_52 rfl rfl ld3 ?_
      refine v_iload_n (i := 1) h 53 54 dX4_pass_53 rfl rfl ld1 ?_
      refine v_icmp_ge h 54 57 67 dX4_pass_54 rfl (by decide) (fun h54 => ?_) (fun h54 => absurd (nI_le (Nat.le_refl _) (by omega)) h54)
      refine v_aload_n (i := 0) h 67 68 dX4_pass_67 rfl rfl ld0 ?_
      refine v_aload_n (i := 0) h 68 69 dX4_pass_68 rfl rfl ld0 ?_
      refine v_get h 69 72 dX4_pass_69 rfl fo_X4_7 ml_ob rfl ?_
      refine v_bipush (v := nI 12) h 72 74 dX4_pass_72 rfl (by decide) ?_
      refine v_ildSm h 74 75 _ dX4_pass_74 rfl (by omega) ?_
      refine v_iload_n (i := 2) h 75 76 dX4_pass_75 rfl rfl ld2 ?_
      refine v_isub h 76 77 dX4_pass_76 rfl ?_
      refine v_callV1 h 77 80 dX4_pass_77 rfl cb_X4_ends cv_X4_ends ml_ob lk_X4_106 (rok (by decide) (by decide)) ⟨rfl, rfl⟩ ⟨Nat.zero_le _, Nat.zero_le _⟩ (k_ends hks e0 _) rfl rfl (Nat.le_of_ble_eq_true rfl) ?_
      exact v_iret h 80 f dX4_pass_80 rfl (Nat.zero_le _) (Nat.zero_le _) rfl rfl
    | succ d ih =>
      intro j hj
      obtain ⟨ne2, hIj⟩ := inv_pas hI j
      refine v_iload_n (i := 3) h 52 53 dX4_pass_52 rfl rfl ld3 ?_
      refine v_iload_n (i := 1) h 53 54 dX4_pass_53 rfl rfl ld1 ?_
      refine v_icmp_ge h 54 57 67 dX4_pass_54 rfl (by decide) (fun h54 => absurd h54 (nI_ge (by omega) (by omega))) (fun h54 => ?_)
      refine v_aload_n (i := 0) h 57 58 dX4_pass_57 rfl rfl ld0 ?_
      refine v_callV0 h 58 61 dX4_pass_58 rfl cb_X4_minute cv_X4_minute ml_ob lk_X4_85 (rok (by decide) (by decide)) ⟨rfl, rfl⟩ ⟨Nat.zero_le _, Nat.zero_le _⟩ (k_minute hIj (by omega)) rfl rfl (Nat.le_of_ble_eq_true rfl) ?_
      refine v_iinc (i := 3) h 61 64 dX4_pass_61 rfl ld3 (by first | exact iinc1 _ | rfl) (by decide) (so3 rfl) ?_
      refine v_goto h 64 52 dX4_pass_64 (by decide) ?_
      exact V.weakT (ih (j + 1) (by omega)) (And.intro rfl (And.intro rfl (And.intro rfl (And.intro rfl trivial))))
  exact V.weakT (loop52 k 0 (by omega)) (And.intro rfl (And.intro rfl (And.intro rfl (And.intro rfl trivial))))

theorem tellS_4 {S T : St} {i : Nat} (h : ∀ c, i ≠ 13 + 8 * c + 7) : ∀ c, tellS S T c i = S i := by
  intro c
  induction c with
  | zero => rfl
  | succ c ih =>
    rw [tellS_s]
    split
    · exact ih
    · rw [upd_ne _ _ (h c)]; exact ih
theorem ge2 {S : St} {sp nc nt ne m c : Nat} (hI : Inv S sp nc nt ne m) (hc : c < nc) : (2 ≤ S (13 + 8 * c + 4)) = (S (13 + 8 * c + 4) = 2) := by
  rcases (hI.2.2.1 c hc).2.2.2.2 with d | d | d <;> rw [d] <;> exact propext (by decide)
set_option maxRecDepth 100000 in
set_option maxHeartbeats 4000000 in
theorem r_tell {E : EE} {D : Nat} {S : St} {Ps : Nat → St} {A K T N I : St} {hh : Int64} {w : Wo} {sp nc nt ne m : Nat} (hI : Inv S sp nc nt ne m) (hm : m < 2 ^ 30 - 5000) {ks : Nat} (hks : ks ≤ 4) (e0 : I 0 = nI ks) : Cd E mX4_tell (ml E D S Ps A K T N I hh w) [.ref D] (some (.int (tellC S (runS nc nt 1000 S m).1 nc))) (ml E D (tellS S (runS nc nt 1000 S m).1 nc) (psh Ps S ks) S S T (cpA N (fun c => (runS nc nt 1000 S m).1 (13 + 8 * c + 6)) nc) (upd (upd (upd I 3 (outI (runS nc nt 1000 S m))) 0 (nI (min 4 (ks + 1)))) 2 0) hh w) := by
  refine Cd.of RX4 rfl (by decide) [some (.ref D), none, none] (Nat.le_of_ble_eq_true rfl) rfl (fun Γ h f hmn => ?_)
  have hnc := hI.n14
  have k12 : ∀ R : St × Nat, Fn E Γ mX4_tell (some (.int (tellC S R.1 nc))) (ml E D (tellS S R.1 nc) (psh Ps S ks) S S T (cpA N (fun c => R.1 (13 + 8 * c + 6)) nc) (upd (upd (upd I 3 (outI R)) 0 (nI (min 4 (ks + 1)))) 2 0) hh w) → V E Γ 0 0 12 [some (.ref D), some (.int 0), some (.int 0)] [] (ml E D S Ps S S T (cpA N (fun c => R.1 (13 + 8 * c + 6)) nc) (upd I 3 (outI R)) hh w) := by
    intro R f
    have loop12 : ∀ d j, j + d = nc → V E Γ 0 0 12 [some (.ref D), some (.int (tellC S R.1 j)), some (.int (nI j))] [] (ml E D (tellS S R.1 j) Ps S S T (cpA N (fun c => R.1 (13 + 8 * c + 6)) nc) (upd I 3 (outI R)) hh w) := by
      intro d
      induction d with
      | zero =>
        intro j hj
        obtain rfl : nc = j := by omega
        have e7 : tellS S R.1 nc 7 = nI nc := (tellS_lo (by omega) _).trans hI.c7
        refine v_iload_n (i := 2) h 12 13 dX4_tell_12 rfl rfl ld2 ?_
        refine v_aload_n (i := 0) h 13 14 dX4_tell_13 rfl rfl ld0 ?_
        refine v_get h 14 17 dX4_tell_14 rfl fo_X4_7 ml_ob rfl ?_
        refine v_bipush (v := nI 7) h 17 19 dX4_tell_17 rfl (by decide) ?_
        refine v_ildSm h 19 20 _ dX4_tell_19 rfl (by omega) ?_
        refine v_icmp_ge h 20 23 70 dX4_tell_20 rfl (by decide) (fun h20 => ?_) (fun h20 => absurd (by rw [e7]; exact nI_le (Nat.le_refl _) (by omega)) h20)
        refine v_aload_n (i := 0) h 70 71 dX4_tell_70 rfl rfl ld0 ?_
        refine v_iload_n (i := 1) h 71 72 dX4_tell_71 rfl rfl ld1 ?_
        refine v_callV1 h 72 75 dX4_tell_72 rfl cb_X4_ends cv_X4_ends ml_ob lk_X4_106 (rok (by decide) (by decide)) ⟨rfl, rfl⟩ ⟨Nat.zero_le _, Nat.zero_le _⟩ (k_ends hks ((upd_ne _ _ (by omega)).trans e0) _) rfl rfl (Nat.le_of_ble_eq_true rfl) ?_
        exact v_iret h 75 f dX4_tell_75 rfl (Nat.zero_le _) (Nat.zero_le _) rfl rfl
      | succ d ih =>
        intro j hj
        have e7 : tellS S R.1 j 7 = nI nc := (tellS_lo (by omega) _).trans hI.c7
        have nj : cpA N (fun c => R.1 (13 + 8 * c + 6)) nc j = R.1 (13 + 8 * j + 6) := if_pos (by omega)
        refine v_iload_n (i := 2) h 12 13 dX4_tell_12 rfl rfl ld2 ?_
        refine v_aload_n (i := 0) h 13 14 dX4_tell_13 rfl rfl ld0 ?_
        refine v_get h 14 17 dX4_tell_14 rfl fo_X4_7 ml_ob rfl ?_
        refine v_bipush (v := nI 7) h 17 19 dX4_tell_17 rfl (by decide) ?_
        refine v_ildSm h 19 20 _ dX4_tell_19 rfl (by omega) ?_
        refine v_icmp_ge h 20 23 70 dX4_tell_20 rfl (by decide) (fun h20 => absurd h20 (by rw [e7]; exact nI_ge (by omega) (by omega))) (fun h20 => ?_)
        refine v_aload_n (i := 0) h 23 24 dX4_tell_23 rfl rfl ld0 ?_
        refine v_iload_n (i := 2) h 24 25 dX4_tell_24 rfl rfl ld2 ?_
        refine v_iconst (v := 4) h 25 26 dX4_tell_25 rfl (by decide) ?_
        refine v_callV1 h 26 29 dX4_tell_26 rfl cb_X4_of cv_X4_of ml_ob lk_X4_43 (rok (by decide) (by decide)) ⟨rfl, rfl⟩ ⟨Nat.zero_le _, Nat.zero_le _⟩ (k_of (c := j) (k := 4) (by omega) (by decide)) rfl rfl (Nat.le_of_ble_eq_true rfl) ?_
        refine v_iconst (v := 2) h 29 30 dX4_tell_29 rfl (by decide) ?_
        refine v_icmp_ge h 30 33 64 dX4_tell_30 rfl (by decide) (fun h30 => ?_) (fun h30 => ?_)
        · refine v_iinc (i := 2) h 64 67 dX4_tell_64 rfl ld2 (by first | exact iinc1 _ | rfl) (by decide) (so2 rfl) ?_
          refine v_goto h 67 12 dX4_tell_67 (by decide) ?_
          have e4 : tellS S R.1 j (13 + 8 * j + 4) = S (13 + 8 * j + 4) := tellS_4 (fun c => by omega) j
          have q := ih (j + 1) (by omega)
          rw [tellS_s, tellC_s, e4, if_pos ((ge2 hI (c := j) (by omega)).mp (by rw [← e4]; exact h30)), if_pos ((ge2 hI (c := j) (by omega)).mp (by rw [← e4]; exact h30))] at q
          exact V.weakT q (And.intro rfl (And.intro rfl (And.intro rfl trivial)))
        · refine v_aload_n (i := 0) h 33 34 dX4_tell_33 rfl rfl ld0 ?_
          refine v_iload_n (i := 2) h 34 35 dX4_tell_34 rfl rfl ld2 ?_
          refine v_bipush (v := 7) h 35 37 dX4_tell_35 rfl (by decide) ?_
          refine v_aload_n (i := 0) h 37 38 dX4_tell_37 rfl rfl ld0 ?_
          refine v_get h 38 41 dX4_tell_38 rfl fo_X4_25 ml_ob rfl ?_
          refine v_iload_n (i := 2) h 41 42 dX4_tell_41 rfl rfl ld2 ?_
          refine v_ildNm h 42 43 _ dX4_tell_42 rfl (by omega) ?_
          rw [nj]
          refine v_callV0 h 43 46 dX4_tell_43 rfl cb_X4_puts cv_X4_puts ml_ob lk_X4_60 (rok (by decide) (by decide)) ⟨rfl, rfl⟩ ⟨Nat.zero_le _, Nat.zero_le _⟩ (k_puts (c := j) (k := 7) (by omega) (by decide) _) rfl rfl (Nat.le_of_ble_eq_true rfl) ?_
          refine v_iload_n (i := 1) h 46 47 dX4_tell_46 rfl rfl ld1 ?_
          refine v_aload_n (i := 0) h 47 48 dX4_tell_47 rfl rfl ld0 ?_
          refine v_get h 48 51 dX4_tell_48 rfl fo_X4_25 ml_ob rfl ?_
          refine v_iload_n (i := 2) h 51 52 dX4_tell_51 rfl rfl ld2 ?_
          refine v_ildNm h 52 53 _ dX4_tell_52 rfl (by omega) ?_
          rw [nj]
          refine v_iconst (v := (-1)) h 53 54 dX4_tell_53 rfl (by decide) ?_
          refine v_icmp_ne h 54 57 61 dX4_tell_54 rfl (by decide) (fun h54 => ?_) (fun h54 => ?_)
          · refine v_iconst (v := 1) h 61 62 dX4_tell_61 rfl (by decide) ?_
            refine v_iadd h 62 63 dX4_tell_62 rfl ?_
            refine v_istore_n (i := 1) h 63 64 dX4_tell_63 rfl rfl (by decide) (so1 rfl) ?_
            refine v_iinc (i := 2) h 64 67 dX4_tell_64 rfl ld2 (by first | exact iinc1 _ | rfl) (by decide) (so2 rfl) ?_
            refine v_goto h 67 12 dX4_tell_67 (by decide) ?_
            have e4 : tellS S R.1 j (13 + 8 * j + 4) = S (13 + 8 * j + 4) := tellS_4 (fun c => by omega) j
            have q := ih (j + 1) (by omega)
            have e4n : ¬ S (13 + 8 * j + 4) = 2 := fun z => h30 (by rw [e4, z]; decide)
            rw [tellS_s, tellC_s, e4, if_neg e4n, if_neg e4n, if_neg h54] at q
            exact V.weakT q (And.intro rfl (And.intro rfl (And.intro rfl trivial)))
          · refine v_iconst (v := 0) h 57 58 dX4_tell_57 rfl (by decide) ?_
            refine v_goto h 58 62 dX4_tell_58 (by decide) ?_
            refine v_iadd h 62 63 dX4_tell_62 rfl ?_
            refine v_istore_n (i := 1) h 63 64 dX4_tell_63 rfl rfl (by decide) (so1 rfl) ?_
            refine v_iinc (i := 2) h 64 67 dX4_tell_64 rfl ld2 (by first | exact iinc1 _ | rfl) (by decide) (so2 rfl) ?_
            refine v_goto h 67 12 dX4_tell_67 (by decide) ?_
            have e4 : tellS S R.1 j (13 + 8 * j + 4) = S (13 + 8 * j + 4) := tellS_4 (fun c => by omega) j
            have q := ih (j + 1) (by omega)
            have e4n : ¬ S (13 + 8 * j + 4) = 2 := fun z => h30 (by rw [e4, z]; decide)
            rw [tellS_s, tellC_s, e4, if_neg e4n, if_neg e4n, if_pos h54] at q
            exact V.weakT q (And.intro rfl (And.intro rfl (And.intro rfl trivial)))
    exact V.weakT (loop12 nc 0 (by omega)) (And.intro rfl (And.intro rfl (And.intro rfl trivial)))
  refine v_aload_n (i := 0) h 0 1 dX4_tell_0 rfl rfl ld0 ?_
  refine v_callV0 h 1 4 dX4_tell_1 rfl cb_X4_hold cv_X4_hold ml_ob lk_X4_99 (rok (by decide) (by decide)) ⟨rfl, rfl⟩ ⟨Nat.zero_le _, Nat.zero_le _⟩ k_hold rfl rfl (Nat.le_of_ble_eq_true rfl) ?_
  refine v_aload_n (i := 0) h 4 5 dX4_tell_4 rfl rfl ld0 ?_
  refine v_callV0 h 5 8 dX4_tell_5 rfl cb_X4_foresees cv_X4_foresees ml_ob lk_X4_119 (rok (by decide) (by decide)) ⟨rfl, rfl⟩ ⟨Nat.zero_le _, Nat.zero_le _⟩ (k_foresees hI hm) rfl rfl (Nat.le_of_ble_eq_true rfl) ?_
  refine v_iconst (v := 0) h 8 9 dX4_tell_8 rfl (by decide) ?_
  refine v_istore_n (i := 1) h 9 10 dX4_tell_9 rfl rfl (by decide) (so1 rfl) ?_
  refine v_iconst (v := 0) h 10 11 dX4_tell_10 rfl (by decide) ?_
  refine v_istore_n (i := 2) h 11 12 dX4_tell_11 rfl rfl (by decide) (so2 rfl) ?_
  exact k12 _ f

