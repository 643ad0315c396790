/-! WHAT CAN BE ASKED OF THE REFERENCE -/
set_option maxRecDepth 100000 in
set_option maxHeartbeats 4000000 in
theorem k_chairOf {E : EE} {D : Nat} {S : St} {Ps : Nat → St} {A K T N I : St} {hh : Int64} {w : Wo} {c k : Nat} (hc : c < 14) (hk : k < 9) (hz : S (13 + 8 * c + 3) = 0 ∨ S (13 + 8 * c + 3) = 1) : Cd E mX4_chairOf (ml E D S Ps A K T N I hh w) [.ref D, .int (nI c), .int (nI k)] (some (.int (chFact S c k))) (ml E D S Ps A K T N I hh w) := by
  refine Cd.of RX4 rfl (by decide) [some (.ref D), some (.int (nI c)), some (.int (nI k))] (Nat.le_of_ble_eq_true rfl) rfl (fun Γ h f hmn => ?_)
  refine v_iload_n (i := 2) h 0 1 dX4_chairOf_0 rfl rfl ld2 ?_
  refine v_iconst (v := nI 4) h 1 2 dX4_chairOf_1 rfl (by decide) ?_
  refine v_icmp_ge h 2 5 14 dX4_chairOf_2 rfl (by decide) (fun h2 => ?_) (fun h2 => ?_)
  · have q4 : 4 ≤ k := (nI_leI (by omega) (by omega)).mp h2
    refine v_iload_n (i := 2) h 14 15 dX4_chairOf_14 rfl rfl ld2 ?_
    refine v_iconst (v := nI 4) h 15 16 dX4_chairOf_15 rfl (by decide) ?_
    refine v_icmp_ne h 16 19 27 dX4_chairOf_16 rfl (by decide) (fun h16 => ?_) (fun h16 => ?_)
    · have q5 : ¬ k = 4 := fun q => h16 (by rw [q])
      refine v_aload_n (i := 0) h 27 28 dX4_chairOf_27 rfl rfl ld0 ?_
      refine v_iload_n (i := 1) h 28 29 dX4_chairOf_28 rfl rfl ld1 ?_
      refine v_iload_n (i := 2) h 29 30 dX4_chairOf_29 rfl rfl ld2 ?_
      refine v_iconst (v := nI 1) h 30 31 dX4_chairOf_30 rfl (by decide) ?_
      refine v_isub h 31 32 dX4_chairOf_31 rfl ?_
      rw [pk_sub (a := k) (b := 1) (by omega)]
      refine v_callV1 h 32 35 dX4_chairOf_32 rfl cb_X4_of cv_X4_of ml_ob lk_X4_43 (rok (by decide) (by decide)) ⟨rfl, rfl⟩ ⟨Nat.zero_le _, Nat.zero_le _⟩ (k_of (c := c) (k := k - 1) hc (by omega)) rfl rfl (Nat.le_of_ble_eq_true rfl) ?_
      refine v_iret h 35 f dX4_chairOf_35 rfl (Nat.zero_le _) (Nat.zero_le _) ?_ ?_
      · rw [chFact, if_neg (by omega), if_neg q5]
      · rfl
    · have q5 : k = 4 := nI_inj (by omega) (by omega) h16
      refine v_aload_n (i := 0) h 19 20 dX4_chairOf_19 rfl rfl ld0 ?_
      refine v_iload_n (i := 1) h 20 21 dX4_chairOf_20 rfl rfl ld1 ?_
      refine v_callV1 h 21 24 dX4_chairOf_21 rfl cb_X4_rankOf cv_X4_rankOf ml_ob lk_X4_50 (rok (by decide) (by decide)) ⟨rfl, rfl⟩ ⟨Nat.zero_le _, Nat.zero_le _⟩ (k_rankOf hc hz) rfl rfl (Nat.le_of_ble_eq_true rfl) ?_
      refine v_goto h 24 35 dX4_chairOf_24 (by decide) ?_
      refine v_iret h 35 f dX4_chairOf_35 rfl (Nat.zero_le _) (Nat.zero_le _) ?_ ?_
      · rw [chFact, if_neg (by omega), if_pos q5]
      · rfl
  · have q4 : ¬ 4 ≤ k := fun q => h2 (nI_le q (by omega))
    refine v_aload_n (i := 0) h 5 6 dX4_chairOf_5 rfl rfl ld0 ?_
    refine v_iload_n (i := 1) h 6 7 dX4_chairOf_6 rfl rfl ld1 ?_
    refine v_iload_n (i := 2) h 7 8 dX4_chairOf_7 rfl rfl ld2 ?_
    refine v_callV1 h 8 11 dX4_chairOf_8 rfl cb_X4_of cv_X4_of ml_ob lk_X4_43 (rok (by decide) (by decide)) ⟨rfl, rfl⟩ ⟨Nat.zero_le _, Nat.zero_le _⟩ (k_of (c := c) (k := k) hc (by omega)) rfl rfl (Nat.le_of_ble_eq_true rfl) ?_
    refine v_goto h 11 35 dX4_chairOf_11 (by decide) ?_
    refine v_iret h 35 f dX4_chairOf_35 rfl (Nat.zero_le _) (Nat.zero_le _) ?_ ?_
    · rw [chFact, if_pos (by omega)]
    · rfl

set_option maxRecDepth 100000 in
set_option maxHeartbeats 4000000 in
theorem r_chair1 {E : EE} {D : Nat} {S : St} {Ps : Nat → St} {A K T N I : St} {hh : Int64} {w : Wo} {i x : Int32} (z : i < 0 ∨ S 7 ≤ i) : Cd E mX4_chair (ml E D S Ps A K T N I hh w) [.ref D, .int i, .int x] (some (.int 0)) (ml E D S Ps A K T N (upd I 2 1) hh w) := by
  refine Cd.of RX4 rfl (by decide) [some (.ref D), some (.int i), some (.int x)] (Nat.le_of_ble_eq_true rfl) rfl (fun Γ h f hmn => ?_)
  refine v_aload_n (i := 0) h 0 1 dX4_chair_0 rfl rfl ld0 ?_
  refine v_iload_n (i := 1) h 1 2 dX4_chair_1 rfl rfl ld1 ?_
  refine v_callV1 h 2 5 dX4_chair_2 rfl cb_X4_isChair cv_X4_isChair ml_ob lk_X4_113 (rok (by decide) (by decide)) ⟨rfl, rfl⟩ ⟨Nat.zero_le _, Nat.zero_le _⟩ (k_isChairN z) rfl rfl (Nat.le_of_ble_eq_true rfl) ?_
  refine v_if_ne h 5 8 14 dX4_chair_5 rfl (by decide) (fun h5 => absurd rfl h5) (fun h5 => ?_)
  refine v_aload_n (i := 0) h 8 9 dX4_chair_8 rfl rfl ld0 ?_
  refine v_iconst (v := 1) h 9 10 dX4_chair_9 rfl (by decide) ?_
  refine v_callV1 h 10 13 dX4_chair_10 rfl cb_X4_fails cv_X4_fails ml_ob lk_X4_92 (rok (by decide) (by decide)) ⟨rfl, rfl⟩ ⟨Nat.zero_le _, Nat.zero_le _⟩ (k_fails _) rfl rfl (Nat.le_of_ble_eq_true rfl) ?_
  exact v_iret h 13 f dX4_chair_13 rfl (Nat.zero_le _) (Nat.zero_le _) rfl rfl

set_option maxRecDepth 100000 in
set_option maxHeartbeats 4000000 in
theorem r_chair2 {E : EE} {D : Nat} {S : St} {Ps : Nat → St} {A K T N I : St} {hh : Int64} {w : Wo} {i x : Int32} (y1 : ¬ i < 0) (y2 : ¬ S 7 ≤ i) (z : x < 0 ∨ 8 < x) : Cd E mX4_chair (ml E D S Ps A K T N I hh w) [.ref D, .int i, .int x] (some (.int 0)) (ml E D S Ps A K T N (upd I 2 2) hh w) := by
  refine Cd.of RX4 rfl (by decide) [some (.ref D), some (.int i), some (.int x)] (Nat.le_of_ble_eq_true rfl) rfl (fun Γ h f hmn => ?_)
  refine v_aload_n (i := 0) h 0 1 dX4_chair_0 rfl rfl ld0 ?_
  refine v_iload_n (i := 1) h 1 2 dX4_chair_1 rfl rfl ld1 ?_
  refine v_callV1 h 2 5 dX4_chair_2 rfl cb_X4_isChair cv_X4_isChair ml_ob lk_X4_113 (rok (by decide) (by decide)) ⟨rfl, rfl⟩ ⟨Nat.zero_le _, Nat.zero_le _⟩ (k_isChairY y1 y2) rfl rfl (Nat.le_of_ble_eq_true rfl) ?_
  refine v_if_ne h 5 8 14 dX4_chair_5 rfl (by decide) (fun h5 => ?_) (fun h5 => absurd h5 (by decide))
  refine v_iload_n (i := 2) h 14 15 dX4_chair_14 rfl rfl ld2 ?_
  refine v_iconst (v := 0) h 15 16 dX4_chair_15 rfl (by decide) ?_
  refine v_bipush (v := 8) h 16 18 dX4_chair_16 rfl (by decide) ?_
  refine v_callS1 h 18 21 dX4_chair_18 rfl cb_X4_in cs_X4_in lk_X4_95 (rok (by decide) (by decide)) ⟨rfl, rfl⟩ ⟨Nat.zero_le _, Nat.zero_le _⟩ (k_inN z) rfl rfl (Nat.le_of_ble_eq_true rfl) ?_
  refine v_if_eq h 21 24 37 dX4_chair_21 rfl (by decide) (fun h21 => ?_) (fun h21 => absurd (by decide) h21)
  refine v_aload_n (i := 0) h 37 38 dX4_chair_37 rfl rfl ld0 ?_
  refine v_iconst (v := 2) h 38 39 dX4_chair_38 rfl (by decide) ?_
  refine v_callV1 h 39 42 dX4_chair_39 rfl cb_X4_fails cv_X4_fails ml_ob lk_X4_92 (rok (by decide) (by decide)) ⟨rfl, rfl⟩ ⟨Nat.zero_le _, Nat.zero_le _⟩ (k_fails _) rfl rfl (Nat.le_of_ble_eq_true rfl) ?_
  exact v_iret h 42 f dX4_chair_42 rfl (Nat.zero_le _) (Nat.zero_le _) rfl rfl

set_option maxRecDepth 100000 in
set_option maxHeartbeats 4000000 in
theorem r_chair {E : EE} {D : Nat} {S : St} {Ps : Nat → St} {A K T N I : St} {hh : Int64} {w : Wo} {c k : Nat} (hc : c < 14) (hk : k < 9) (y1 : ¬ nI c < 0) (y2 : ¬ S 7 ≤ nI c) (hz : S (13 + 8 * c + 3) = 0 ∨ S (13 + 8 * c + 3) = 1) (y3 : ¬ nI k < 0) (y4 : ¬ 8 < nI k) : Cd E mX4_chair (ml E D S Ps A K T N I hh w) [.ref D, .int (nI c), .int (nI k)] (some (.int (chFact S c k))) (ml E D S Ps A K T N (upd I 2 0) hh w) := by
  refine Cd.of RX4 rfl (by decide) [some (.ref D), some (.int (nI c)), some (.int (nI k))] (Nat.le_of_ble_eq_true rfl) rfl (fun Γ h f hmn => ?_)
  refine v_aload_n (i := 0) h 0 1 dX4_chair_0 rfl rfl ld0 ?_
  refine v_iload_n (i := 1) h 1 2 dX4_chair_1 rfl rfl ld1 ?_
  refine v_callV1 h 2 5 dX4_chair_2 rfl cb_X4_isChair cv_X4_isChair ml_ob lk_X4_113 (rok (by decide) (by decide)) ⟨rfl, rfl⟩ ⟨Nat.zero_le _, Nat.zero_le _⟩ (k_isChairY y1 y2) rfl rfl (Nat.le_of_ble_eq_true rfl) ?_
  refine v_if_ne h 5 8 14 dX4_chair_5 rfl (by decide) (fun h5 => ?_) (fun h5 => absurd h5 (by decide))
  refine v_iload_n (i := 2) h 14 15 dX4_chair_14 rfl rfl ld2 ?_
  refine v_iconst (v := 0) h 15 16 dX4_chair_15 rfl (by decide) ?_
  refine v_bipush (v := 8) h 16 18 dX4_chair_16 rfl (by decide) ?_
  refine v_callS1 h 18 21 dX4_chair_18 rfl cb_X4_in cs_X4_in lk_X4_95 (rok (by decide) (by decide)) ⟨rfl, rfl⟩ ⟨Nat.zero_le _, Nat.zero_le _⟩ (k_inY y3 y4) rfl rfl (Nat.le_of_ble_eq_true rfl) ?_
  refine v_if_eq h 21 24 37 dX4_chair_21 rfl (by decide) (fun h21 => absurd h21 (by decide)) (fun h21 => ?_)
  refine v_aload_n (i := 0) h 24 25 dX4_chair_24 rfl rfl ld0 ?_
  refine v_aload_n (i := 0) h 25 26 dX4_chair_25 rfl rfl ld0 ?_
  refine v_iload_n (i := 1) h 26 27 dX4_chair_26 rfl rfl ld1 ?_
  refine v_iload_n (i := 2) h 27 28 dX4_chair_27 rfl rfl ld2 ?_
  refine v_callV1 h 28 31 dX4_chair_28 rfl cb_X4_chairOf cv_X4_chairOf ml_ob lk_X4_122 (rok (by decide) (by decide)) ⟨rfl, rfl⟩ ⟨Nat.zero_le _, Nat.zero_le _⟩ (k_chairOf hc hk hz) rfl rfl (Nat.le_of_ble_eq_true rfl) ?_
  refine v_callV1 h 31 34 dX4_chair_31 rfl cb_X4_tells cv_X4_tells ml_ob lk_X4_39 (rok (by decide) (by decide)) ⟨rfl, rfl⟩ ⟨Nat.zero_le _, Nat.zero_le _⟩ (k_tells _) rfl rfl (Nat.le_of_ble_eq_true rfl) ?_
  refine v_goto h 34 42 dX4_chair_34 (by decide) ?_
  exact v_iret h 42 f dX4_chair_42 rfl (Nat.zero_le _) (Nat.zero_le _) rfl rfl

set_option maxRecDepth 100000 in
set_option maxHeartbeats 4000000 in
theorem r_team1 {E : EE} {D : Nat} {S : St} {Ps : Nat → St} {A K T N I : St} {hh : Int64} {w : Wo} {i x : Int32} (z : i < 0 ∨ S 8 ≤ i) : Cd E mX4_team (ml E D S Ps A K T N I hh w) [.ref D, .int i, .int x] (some (.int 0)) (ml E D S Ps A K T N (upd I 2 1) hh w) := by
  refine Cd.of RX4 rfl (by decide) [some (.ref D), some (.int i), some (.int x)] (Nat.le_of_ble_eq_true rfl) rfl (fun Γ h f hmn => ?_)
  refine v_aload_n (i := 0) h 0 1 dX4_team_0 rfl rfl ld0 ?_
  refine v_iload_n (i := 1) h 1 2 dX4_team_1 rfl rfl ld1 ?_
  refine v_callV1 h 2 5 dX4_team_2 rfl cb_X4_isTeam cv_X4_isTeam ml_ob lk_X4_116 (rok (by decide) (by decide)) ⟨rfl, rfl⟩ ⟨Nat.zero_le _, Nat.zero_le _⟩ (k_isTeamN z) rfl rfl (Nat.le_of_ble_eq_true rfl) ?_
  refine v_if_ne h 5 8 14 dX4_team_5 rfl (by decide) (fun h5 => absurd rfl h5) (fun h5 => ?_)
  refine v_aload_n (i := 0) h 8 9 dX4_team_8 rfl rfl ld0 ?_
  refine v_iconst (v := 1) h 9 10 dX4_team_9 rfl (by decide) ?_
  refine v_callV1 h 10 13 dX4_team_10 rfl cb_X4_fails cv_X4_fails ml_ob lk_X4_92 (rok (by decide) (by decide)) ⟨rfl, rfl⟩ ⟨Nat.zero_le _, Nat.zero_le _⟩ (k_fails _) rfl rfl (Nat.le_of_ble_eq_true rfl) ?_
  exact v_iret h 13 f dX4_team_13 rfl (Nat.zero_le _) (Nat.zero_le _) rfl rfl

set_option maxRecDepth 100000 in
set_option maxHeartbeats 4000000 in
theorem r_team2 {E : EE} {D : Nat} {S : St} {Ps : Nat → St} {A K T N I : St} {hh : Int64} {w : Wo} {i x : Int32} (y1 : ¬ i < 0) (y2 : ¬ S 8 ≤ i) (z : x < 0 ∨ 7 < x) : Cd E mX4_team (ml E D S Ps A K T N I hh w) [.ref D, .int i, .int x] (some (.int 0)) (ml E D S Ps A K T N (upd I 2 2) hh w) := by
  refine Cd.of RX4 rfl (by decide) [some (.ref D), some (.int i), some (.int x)] (Nat.le_of_ble_eq_true rfl) rfl (fun Γ h f hmn => ?_)
  refine v_aload_n (i := 0) h 0 1 dX4_team_0 rfl rfl ld0 ?_
  refine v_iload_n (i := 1) h 1 2 dX4_team_1 rfl rfl ld1 ?_
  refine v_callV1 h 2 5 dX4_team_2 rfl cb_X4_isTeam cv_X4_isTeam ml_ob lk_X4_116 (rok (by decide) (by decide)) ⟨rfl, rfl⟩ ⟨Nat.zero_le _, Nat.zero_le _⟩ (k_isTeamY y1 y2) rfl rfl (Nat.le_of_ble_eq_true rfl) ?_
  refine v_if_ne h 5 8 14 dX4_team_5 rfl (by decide) (fun h5 => ?_) (fun h5 => absurd h5 (by decide))
  refine v_iload_n (i := 2) h 14 15 dX4_team_14 rfl rfl ld2 ?_
  refine v_iconst (v := 0) h 15 16 dX4_team_15 rfl (by decide) ?_
  refine v_bipush (v := 7) h 16 18 dX4_team_16 rfl (by decide) ?_
  refine v_callS1 h 18 21 dX4_team_18 rfl cb_X4_in cs_X4_in lk_X4_95 (rok (by decide) (by decide)) ⟨rfl, rfl⟩ ⟨Nat.zero_le _, Nat.zero_le _⟩ (k_inN z) rfl rfl (Nat.le_of_ble_eq_true rfl) ?_
  refine v_if_eq h 21 24 37 dX4_team_21 rfl (by decide) (fun h21 => ?_) (fun h21 => absurd (by decide) h21)
  refine v_aload_n (i := 0) h 37 38 dX4_team_37 rfl rfl ld0 ?_
  refine v_iconst (v := 2) h 38 39 dX4_team_38 rfl (by decide) ?_
  refine v_callV1 h 39 42 dX4_team_39 rfl cb_X4_fails cv_X4_fails ml_ob lk_X4_92 (rok (by decide) (by decide)) ⟨rfl, rfl⟩ ⟨Nat.zero_le _, Nat.zero_le _⟩ (k_fails _) rfl rfl (Nat.le_of_ble_eq_true rfl) ?_
  exact v_iret h 42 f dX4_team_42 rfl (Nat.zero_le _) (Nat.zero_le _) rfl rfl

set_option maxRecDepth 100000 in
set_option maxHeartbeats 4000000 in
theorem r_team {E : EE} {D : Nat} {S : St} {Ps : Nat → St} {A K T N I : St} {hh : Int64} {w : Wo} {c k : Nat} (hc : c < 4) (hk : k < 8) (y1 : ¬ nI c < 0) (y2 : ¬ S 8 ≤ nI c) (y3 : ¬ nI k < 0) (y4 : ¬ 7 < nI k) : Cd E mX4_team (ml E D S Ps A K T N I hh w) [.ref D, .int (nI c), .int (nI k)] (some (.int (S (125 + 8 * c + k)))) (ml E D S Ps A K T N (upd I 2 0) hh w) := by
  refine Cd.of RX4 rfl (by decide) [some (.ref D), some (.int (nI c)), some (.int (nI k))] (Nat.le_of_ble_eq_true rfl) rfl (fun Γ h f hmn => ?_)
  refine v_aload_n (i := 0) h 0 1 dX4_team_0 rfl rfl ld0 ?_
  refine v_iload_n (i := 1) h 1 2 dX4_team_1 rfl rfl ld1 ?_
  refine v_callV1 h 2 5 dX4_team_2 rfl cb_X4_isTeam cv_X4_isTeam ml_ob lk_X4_116 (rok (by decide) (by decide)) ⟨rfl, rfl⟩ ⟨Nat.zero_le _, Nat.zero_le _⟩ (k_isTeamY y1 y2) rfl rfl (Nat.le_of_ble_eq_true rfl) ?_
  refine v_if_ne h 5 8 14 dX4_team_5 rfl (by decide) (fun h5 => ?_) (fun h5 => absurd h5 (by decide))
  refine v_iload_n (i := 2) h 14 15 dX4_team_14 rfl rfl ld2 ?_
  refine v_iconst (v := 0) h 15 16 dX4_team_15 rfl (by decide) ?_
  refine v_bipush (v := 7) h 16 18 dX4_team_16 rfl (by decide) ?_
  refine v_callS1 h 18 21 dX4_team_18 rfl cb_X4_in cs_X4_in lk_X4_95 (rok (by decide) (by decide)) ⟨rfl, rfl⟩ ⟨Nat.zero_le _, Nat.zero_le _⟩ (k_inY y3 y4) rfl rfl (Nat.le_of_ble_eq_true rfl) ?_
  refine v_if_eq h 21 24 37 dX4_team_21 rfl (by decide) (fun h21 => absurd h21 (by decide)) (fun h21 => ?_)
  refine v_aload_n (i := 0) h 24 25 dX4_team_24 rfl rfl ld0 ?_
  refine v_aload_n (i := 0) h 25 26 dX4_team_25 rfl rfl ld0 ?_
  refine v_iload_n (i := 1) h 26 27 dX4_team_26 rfl rfl ld1 ?_
  refine v_iload_n (i := 2) h 27 28 dX4_team_27 rfl rfl ld2 ?_
  refine v_callV1 h 28 31 dX4_team_28 rfl cb_X4_ofTeam cv_X4_ofTeam ml_ob lk_X4_47 (rok (by decide) (by decide)) ⟨rfl, rfl⟩ ⟨Nat.zero_le _, Nat.zero_le _⟩ (k_ofTeam hc hk) rfl rfl (Nat.le_of_ble_eq_true rfl) ?_
  refine v_callV1 h 31 34 dX4_team_31 rfl cb_X4_tells cv_X4_tells ml_ob lk_X4_39 (rok (by decide) (by decide)) ⟨rfl, rfl⟩ ⟨Nat.zero_le _, Nat.zero_le _⟩ (k_tells _) rfl rfl (Nat.le_of_ble_eq_true rfl) ?_
  refine v_goto h 34 42 dX4_team_34 (by decide) ?_
  exact v_iret h 42 f dX4_team_42 rfl (Nat.zero_le _) (Nat.zero_le _) rfl rfl

set_option maxRecDepth 100000 in
set_option maxHeartbeats 4000000 in
theorem k_sum0 {E : EE} {D : Nat} {S : St} {Ps : Nat → St} {A K T N I : St} {hh : Int64} {w : Wo} {nc : Nat} (e7 : S 7 = nI nc) (hm : nc ≤ 14) (x : Int32) : Cd E mX4_sumOf (ml E D S Ps A K T N I hh w) [.ref D, .int x, .int 0] (some (.int (cntI S x nc))) (ml E D S Ps A K T N I hh w) := by
  refine Cd.of RX4 rfl (by decide) [some (.ref D), some (.int x), some (.int 0), none, none] (Nat.le_of_ble_eq_true rfl) rfl (fun Γ h f hmn => ?_)
  refine v_iconst (v := 0) h 0 1 dX4_sumOf_0 rfl (by decide) ?_
  refine v_istore_n (i := 3) h 1 2 dX4_sumOf_1 rfl rfl (by decide) (so3 rfl) ?_
  refine v_iconst (v := 0) h 2 3 dX4_sumOf_2 rfl (by decide) ?_
  refine v_istore (i := 4) h 3 5 dX4_sumOf_3 rfl (by decide) (so4 rfl) ?_
  have loop5 : ∀ d j, j + d = nc → V E Γ 0 0 5 [some (.ref D), some (.int x), some (.int 0), some (.int (cntI S x j)), some (.int (nI j))] [] (ml E D S Ps A K T N I hh w) := by
    intro d
    induction d with
    | zero =>
      intro j hj
      obtain rfl : nc = j := by omega
      refine v_iload (i := 4) h 5 7 dX4_sumOf_5 rfl ld4 ?_
      refine v_aload_n (i := 0) h 7 8 dX4_sumOf_7 rfl rfl ld0 ?_
      refine v_get h 8 11 dX4_sumOf_8 rfl fo_X4_7 ml_ob rfl ?_
      refine v_bipush (v := nI 7) h 11 13 dX4_sumOf_11 rfl (by decide) ?_
      refine v_ildSm h 13 14 _ dX4_sumOf_13 rfl (by omega) ?_
      refine v_icmp_ge h 14 17 56 dX4_sumOf_14 rfl (by decide) (fun h14 => ?_) (fun h14 => absurd (by rw [e7]; exact nI_le (Nat.le_refl _) (by omega)) h14)
      refine v_iload_n (i := 3) h 56 57 dX4_sumOf_56 rfl rfl ld3 ?_
      exact v_iret h 57 f dX4_sumOf_57 rfl (Nat.zero_le _) (Nat.zero_le _) rfl rfl
    | succ d ih =>
      intro j hj
      refine v_iload (i := 4) h 5 7 dX4_sumOf_5 rfl ld4 ?_
      refine v_aload_n (i := 0) h 7 8 dX4_sumOf_7 rfl rfl ld0 ?_
      refine v_get h 8 11 dX4_sumOf_8 rfl fo_X4_7 ml_ob rfl ?_
      refine v_bipush (v := nI 7) h 11 13 dX4_sumOf_11 rfl (by decide) ?_
      refine v_ildSm h 13 14 _ dX4_sumOf_13 rfl (by omega) ?_
      refine v_icmp_ge h 14 17 56 dX4_sumOf_14 rfl (by decide) (fun h14 => absurd h14 (by rw [e7]; exact nI_ge (by omega) (by omega))) (fun h14 => ?_)
      refine v_iload_n (i := 3) h 17 18 dX4_sumOf_17 rfl rfl ld3 ?_
      refine v_aload_n (i := 0) h 18 19 dX4_sumOf_18 rfl rfl ld0 ?_
      refine v_iload (i := 4) h 19 21 dX4_sumOf_19 rfl ld4 ?_
      refine v_iconst (v := 4) h 21 22 dX4_sumOf_21 rfl (by decide) ?_
      refine v_callV1 h 22 25 dX4_sumOf_22 rfl cb_X4_of cv_X4_of ml_ob lk_X4_43 (rok (by decide) (by decide)) ⟨rfl, rfl⟩ ⟨Nat.zero_le _, Nat.zero_le _⟩ (k_of (c := j) (k := 4) (by omega) (by decide)) rfl rfl (Nat.le_of_ble_eq_true rfl) ?_
      refine v_iload_n (i := 1) h 25 26 dX4_sumOf_25 rfl rfl ld1 ?_
      refine v_icmp_eq h 26 29 33 dX4_sumOf_26 rfl (by decide) (fun h26 => ?_) (fun h26 => ?_)
      · refine v_iload_n (i := 2) h 33 34 dX4_sumOf_33 rfl rfl ld2 ?_
        refine v_if_eq h 34 37 47 dX4_sumOf_34 rfl (by decide) (fun h34 => ?_) (fun h34 => absurd (by decide) h34)
        refine v_iconst (v := 1) h 47 48 dX4_sumOf_47 rfl (by decide) ?_
        refine v_iadd h 48 49 dX4_sumOf_48 rfl ?_
        refine v_istore_n (i := 3) h 49 50 dX4_sumOf_49 rfl rfl (by decide) (so3 rfl) ?_
        refine v_iinc (i := 4) h 50 53 dX4_sumOf_50 rfl ld4 (by first | exact iinc1 _ | rfl) (by decide) (so4 rfl) ?_
        refine v_goto h 53 5 dX4_sumOf_53 (by decide) ?_
        have q := ih (j + 1) (by omega)
        rw [cntI_s, if_pos h26] at q
        exact V.weakT q (And.intro rfl (And.intro rfl (And.intro rfl (And.intro (by first | rfl | rw [Int32.add_zero]) (And.intro rfl trivial)))))
      · refine v_iconst (v := 0) h 29 30 dX4_sumOf_29 rfl (by decide) ?_
        refine v_goto h 30 48 dX4_sumOf_30 (by decide) ?_
        refine v_iadd h 48 49 dX4_sumOf_48 rfl ?_
        refine v_istore_n (i := 3) h 49 50 dX4_sumOf_49 rfl rfl (by decide) (so3 rfl) ?_
        refine v_iinc (i := 4) h 50 53 dX4_sumOf_50 rfl ld4 (by first | exact iinc1 _ | rfl) (by decide) (so4 rfl) ?_
        refine v_goto h 53 5 dX4_sumOf_53 (by decide) ?_
        have q := ih (j + 1) (by omega)
        rw [cntI_s, if_neg h26] at q
        exact V.weakT q (And.intro rfl (And.intro rfl (And.intro rfl (And.intro (by first | rfl | rw [Int32.add_zero]) (And.intro rfl trivial)))))
  exact V.weakT (loop5 nc 0 (by omega)) (And.intro rfl (And.intro rfl (And.intro rfl (And.intro rfl (And.intro rfl trivial)))))

set_option maxRecDepth 100000 in
set_option maxHeartbeats 4000000 in
theorem k_sum1 {E : EE} {D : Nat} {S : St} {Ps : Nat → St} {A K T N I : St} {hh : Int64} {w : Wo} {nc : Nat} (e7 : S 7 = nI nc) (hm : nc ≤ 14) (x : Int32) : Cd E mX4_sumOf (ml E D S Ps A K T N I hh w) [.ref D, .int x, .int 1] (some (.int (rdI S x nc))) (ml E D S Ps A K T N I hh w) := by
  refine Cd.of RX4 rfl (by decide) [some (.ref D), some (.int x), some (.int 1), none, none] (Nat.le_of_ble_eq_true rfl) rfl (fun Γ h f hmn => ?_)
  refine v_iconst (v := 0) h 0 1 dX4_sumOf_0 rfl (by decide) ?_
  refine v_istore_n (i := 3) h 1 2 dX4_sumOf_1 rfl rfl (by decide) (so3 rfl) ?_
  refine v_iconst (v := 0) h 2 3 dX4_sumOf_2 rfl (by decide) ?_
  refine v_istore (i := 4) h 3 5 dX4_sumOf_3 rfl (by decide) (so4 rfl) ?_
  have loop5 : ∀ d j, j + d = nc → V E Γ 0 0 5 [some (.ref D), some (.int x), some (.int 1), some (.int (rdI S x j)), some (.int (nI j))] [] (ml E D S Ps A K T N I hh w) := by
    intro d
    induction d with
    | zero =>
      intro j hj
      obtain rfl : nc = j := by omega
      refine v_iload (i := 4) h 5 7 dX4_sumOf_5 rfl ld4 ?_
      refine v_aload_n (i := 0) h 7 8 dX4_sumOf_7 rfl rfl ld0 ?_
      refine v_get h 8 11 dX4_sumOf_8 rfl fo_X4_7 ml_ob rfl ?_
      refine v_bipush (v := nI 7) h 11 13 dX4_sumOf_11 rfl (by decide) ?_
      refine v_ildSm h 13 14 _ dX4_sumOf_13 rfl (by omega) ?_
      refine v_icmp_ge h 14 17 56 dX4_sumOf_14 rfl (by decide) (fun h14 => ?_) (fun h14 => absurd (by rw [e7]; exact nI_le (Nat.le_refl _) (by omega)) h14)
      refine v_iload_n (i := 3) h 56 57 dX4_sumOf_56 rfl rfl ld3 ?_
      exact v_iret h 57 f dX4_sumOf_57 rfl (Nat.zero_le _) (Nat.zero_le _) rfl rfl
    | succ d ih =>
      intro j hj
      refine v_iload (i := 4) h 5 7 dX4_sumOf_5 rfl ld4 ?_
      refine v_aload_n (i := 0) h 7 8 dX4_sumOf_7 rfl rfl ld0 ?_
      refine v_get h 8 11 dX4_sumOf_8 rfl fo_X4_7 ml_ob rfl ?_
      refine v_bipush (v := nI 7) h 11 13 dX4_sumOf_11 rfl (by decide) ?_
      refine v_ildSm h 13 14 _ dX4_sumOf_13 rfl (by omega) ?_
      refine v_icmp_ge h 14 17 56 dX4_sumOf_14 rfl (by decide) (fun h14 => absurd h14 (by rw [e7]; exact nI_ge (by omega) (by omega))) (fun h14 => ?_)
      refine v_iload_n (i := 3) h 17 18 dX4_sumOf_17 rfl rfl ld3 ?_
      refine v_aload_n (i := 0) h 18 19 dX4_sumOf_18 rfl rfl ld0 ?_
      refine v_iload (i := 4) h 19 21 dX4_sumOf_19 rfl ld4 ?_
      refine v_iconst (v := 4) h 21 22 dX4_sumOf_21 rfl (by decide) ?_
      refine v_callV1 h 22 25 dX4_sumOf_22 rfl cb_X4_of cv_X4_of ml_ob lk_X4_43 (rok (by decide) (by decide)) ⟨rfl, rfl⟩ ⟨Nat.zero_le _, Nat.zero_le _⟩ (k_of (c := j) (k := 4) (by omega) (by decide)) rfl rfl (Nat.le_of_ble_eq_true rfl) ?_
      refine v_iload_n (i := 1) h 25 26 dX4_sumOf_25 rfl rfl ld1 ?_
      refine v_icmp_eq h 26 29 33 dX4_sumOf_26 rfl (by decide) (fun h26 => ?_) (fun h26 => ?_)
      · refine v_iload_n (i := 2) h 33 34 dX4_sumOf_33 rfl rfl ld2 ?_
        refine v_if_eq h 34 37 47 dX4_sumOf_34 rfl (by decide) (fun h34 => absurd h34 (by decide)) (fun h34 => ?_)
        refine v_aload_n (i := 0) h 37 38 dX4_sumOf_37 rfl rfl ld0 ?_
        refine v_iload (i := 4) h 38 40 dX4_sumOf_38 rfl ld4 ?_
        refine v_iconst (v := 1) h 40 41 dX4_sumOf_40 rfl (by decide) ?_
        refine v_callV1 h 41 44 dX4_sumOf_41 rfl cb_X4_of cv_X4_of ml_ob lk_X4_43 (rok (by decide) (by decide)) ⟨rfl, rfl⟩ ⟨Nat.zero_le _, Nat.zero_le _⟩ (k_of (c := j) (k := 1) (by omega) (by decide)) rfl rfl (Nat.le_of_ble_eq_true rfl) ?_
        refine v_goto h 44 48 dX4_sumOf_44 (by decide) ?_
        refine v_iadd h 48 49 dX4_sumOf_48 rfl ?_
        refine v_istore_n (i := 3) h 49 50 dX4_sumOf_49 rfl rfl (by decide) (so3 rfl) ?_
        refine v_iinc (i := 4) h 50 53 dX4_sumOf_50 rfl ld4 (by first | exact iinc1 _ | rfl) (by decide) (so4 rfl) ?_
        refine v_goto h 53 5 dX4_sumOf_53 (by decide) ?_
        have q := ih (j + 1) (by omega)
        rw [rdI_s, if_pos h26] at q
        exact V.weakT q (And.intro rfl (And.intro rfl (And.intro rfl (And.intro (by first | rfl | rw [Int32.add_zero]) (And.intro rfl trivial)))))
      · refine v_iconst (v := 0) h 29 30 dX4_sumOf_29 rfl (by decide) ?_
        refine v_goto h 30 48 dX4_sumOf_30 (by decide) ?_
        refine v_iadd h 48 49 dX4_sumOf_48 rfl ?_
        refine v_istore_n (i := 3) h 49 50 dX4_sumOf_49 rfl rfl (by decide) (so3 rfl) ?_
        refine v_iinc (i := 4) h 50 53 dX4_sumOf_50 rfl ld4 (by first | exact iinc1 _ | rfl) (by decide) (so4 rfl) ?_
        refine v_goto h 53 5 dX4_sumOf_53 (by decide) ?_
        have q := ih (j + 1) (by omega)
        rw [rdI_s, if_neg h26] at q
        exact V.weakT q (And.intro rfl (And.intro rfl (And.intro rfl (And.intro (by first | rfl | rw [Int32.add_zero]) (And.intro rfl trivial)))))
  exact V.weakT (loop5 nc 0 (by omega)) (And.intro rfl (And.intro rfl (And.intro rfl (And.intro rfl (And.intro rfl trivial)))))

set_option maxRecDepth 100000 in
set_option maxHeartbeats 4000000 in
theorem k_greatM {E : EE} {D : Nat} {S : St} {Ps : Nat → St} {A K T N I : St} {hh : Int64} {w : Wo} {nc : Nat} (e7 : S 7 = nI nc) (hm : nc ≤ 14) (hzz : ∀ c, c < nc → S (13 + 8 * c + 3) = 0 ∨ S (13 + 8 * c + 3) = 1) : Cd E mX4_greatestRank (ml E D S Ps A K T N I hh w) [.ref D] (some (.int (grI S nc))) (ml E D S Ps A K T N I hh w) := by
  refine Cd.of RX4 rfl (by decide) [some (.ref D), none, none] (Nat.le_of_ble_eq_true rfl) rfl (fun Γ h f hmn => ?_)
  refine v_iconst (v := (-1)) h 0 1 dX4_greatestRank_0 rfl (by decide) ?_
  refine v_istore_n (i := 1) h 1 2 dX4_greatestRank_1 rfl rfl (by decide) (so1 rfl) ?_
  refine v_iconst (v := 0) h 2 3 dX4_greatestRank_2 rfl (by decide) ?_
  refine v_istore_n (i := 2) h 3 4 dX4_greatestRank_3 rfl rfl (by decide) (so2 rfl) ?_
  have loop4 : ∀ d j, j + d = nc → V E Γ 0 0 4 [some (.ref D), some (.int (grI S j)), some (.int (nI j))] [] (ml E D S Ps A K T N I hh w) := by
    intro d
    induction d with
    | zero =>
      intro j hj
      obtain rfl : nc = j := by omega
      refine v_iload_n (i := 2) h 4 5 dX4_greatestRank_4 rfl rfl ld2 ?_
      refine v_aload_n (i := 0) h 5 6 dX4_greatestRank_5 rfl rfl ld0 ?_
      refine v_get h 6 9 dX4_greatestRank_6 rfl fo_X4_7 ml_ob rfl ?_
      refine v_bipush (v := nI 7) h 9 11 dX4_greatestRank_9 rfl (by decide) ?_
      refine v_ildSm h 11 12 _ dX4_greatestRank_11 rfl (by omega) ?_
      refine v_icmp_ge h 12 15 49 dX4_greatestRank_12 rfl (by decide) (fun h12 => ?_) (fun h12 => absurd (by rw [e7]; exact nI_le (Nat.le_refl _) (by omega)) h12)
      refine v_iload_n (i := 1) h 49 50 dX4_greatestRank_49 rfl rfl ld1 ?_
      exact v_iret h 50 f dX4_greatestRank_50 rfl (Nat.zero_le _) (Nat.zero_le _) rfl rfl
    | succ d ih =>
      intro j hj
      refine v_iload_n (i := 2) h 4 5 dX4_greatestRank_4 rfl rfl ld2 ?_
      refine v_aload_n (i := 0) h 5 6 dX4_greatestRank_5 rfl rfl ld0 ?_
      refine v_get h 6 9 dX4_greatestRank_6 rfl fo_X4_7 ml_ob rfl ?_
      refine v_bipush (v := nI 7) h 9 11 dX4_greatestRank_9 rfl (by decide) ?_
      refine v_ildSm h 11 12 _ dX4_greatestRank_11 rfl (by omega) ?_
      refine v_icmp_ge h 12 15 49 dX4_greatestRank_12 rfl (by decide) (fun h12 => absurd h12 (by rw [e7]; exact nI_ge (by omega) (by omega))) (fun h12 => ?_)
      refine v_aload_n (i := 0) h 15 16 dX4_greatestRank_15 rfl rfl ld0 ?_
      refine v_iload_n (i := 2) h 16 17 dX4_greatestRank_16 rfl rfl ld2 ?_
      refine v_iconst (v := 4) h 17 18 dX4_greatestRank_17 rfl (by decide) ?_
      refine v_callV1 h 18 21 dX4_greatestRank_18 rfl cb_X4_of cv_X4_of ml_ob lk_X4_43 (rok (by decide) (by decide)) ⟨rfl, rfl⟩ ⟨Nat.zero_le _, Nat.zero_le _⟩ (k_of (c := j) (k := 4) (by omega) (by decide)) rfl rfl (Nat.le_of_ble_eq_true rfl) ?_
      refine v_if_ne h 21 24 41 dX4_greatestRank_21 rfl (by decide) (fun h21 => ?_) (fun h21 => ?_)
      · refine v_iload_n (i := 1) h 41 42 dX4_greatestRank_41 rfl rfl ld1 ?_
        refine v_istore_n (i := 1) h 42 43 dX4_greatestRank_42 rfl rfl (by decide) (so1 rfl) ?_
        refine v_iinc (i := 2) h 43 46 dX4_greatestRank_43 rfl ld2 (by first | exact iinc1 _ | rfl) (by decide) (so2 rfl) ?_
        refine v_goto h 46 4 dX4_greatestRank_46 (by decide) ?_
        have q := ih (j + 1) (by omega)
        rw [grI_s, if_neg h21] at q
        exact V.weakT q (And.intro rfl (And.intro rfl (And.intro rfl trivial)))
      · refine v_aload_n (i := 0) h 24 25 dX4_greatestRank_24 rfl rfl ld0 ?_
        refine v_iload_n (i := 2) h 25 26 dX4_greatestRank_25 rfl rfl ld2 ?_
        refine v_callV1 h 26 29 dX4_greatestRank_26 rfl cb_X4_rankOf cv_X4_rankOf ml_ob lk_X4_50 (rok (by decide) (by decide)) ⟨rfl, rfl⟩ ⟨Nat.zero_le _, Nat.zero_le _⟩ (k_rankOf (c := j) (by omega) (hzz j (by omega))) rfl rfl (Nat.le_of_ble_eq_true rfl) ?_
        refine v_iload_n (i := 1) h 29 30 dX4_greatestRank_29 rfl rfl ld1 ?_
        refine v_icmp_le h 30 33 41 dX4_greatestRank_30 rfl (by decide) (fun h30 => ?_) (fun h30 => ?_)
        · refine v_iload_n (i := 1) h 41 42 dX4_greatestRank_41 rfl rfl ld1 ?_
          refine v_istore_n (i := 1) h 42 43 dX4_greatestRank_42 rfl rfl (by decide) (so1 rfl) ?_
          refine v_iinc (i := 2) h 43 46 dX4_greatestRank_43 rfl ld2 (by first | exact iinc1 _ | rfl) (by decide) (so2 rfl) ?_
          refine v_goto h 46 4 dX4_greatestRank_46 (by decide) ?_
          have q := ih (j + 1) (by omega)
          rw [grI_s, if_pos h21, if_neg (le_nlt h30)] at q
          exact V.weakT q (And.intro rfl (And.intro rfl (And.intro rfl trivial)))
        · refine v_aload_n (i := 0) h 33 34 dX4_greatestRank_33 rfl rfl ld0 ?_
          refine v_iload_n (i := 2) h 34 35 dX4_greatestRank_34 rfl rfl ld2 ?_
          refine v_callV1 h 35 38 dX4_greatestRank_35 rfl cb_X4_rankOf cv_X4_rankOf ml_ob lk_X4_50 (rok (by decide) (by decide)) ⟨rfl, rfl⟩ ⟨Nat.zero_le _, Nat.zero_le _⟩ (k_rankOf (c := j) (by omega) (hzz j (by omega))) rfl rfl (Nat.le_of_ble_eq_true rfl) ?_
          refine v_goto h 38 42 dX4_greatestRank_38 (by decide) ?_
          refine v_istore_n (i := 1) h 42 43 dX4_greatestRank_42 rfl rfl (by decide) (so1 rfl) ?_
          refine v_iinc (i := 2) h 43 46 dX4_greatestRank_43 rfl ld2 (by first | exact iinc1 _ | rfl) (by decide) (so2 rfl) ?_
          refine v_goto h 46 4 dX4_greatestRank_46 (by decide) ?_
          have q := ih (j + 1) (by omega)
          rw [grI_s, if_pos h21, if_pos (nle_lt h30)] at q
          exact V.weakT q (And.intro rfl (And.intro rfl (And.intro rfl trivial)))
  exact V.weakT (loop4 nc 0 (by omega)) (And.intro rfl (And.intro rfl (And.intro rfl trivial)))

set_option maxRecDepth 100000 in
set_option maxHeartbeats 4000000 in
theorem k_valueOf0 {E : EE} {D : Nat} {S : St} {Ps : Nat → St} {A K T N I : St} {hh : Int64} {w : Wo} {nc : Nat} (e7 : S 7 = nI nc) (hm : nc ≤ 14) (hzz : ∀ c, c < nc → S (13 + 8 * c + 3) = 0 ∨ S (13 + 8 * c + 3) = 1) : Cd E mX4_valueOf (ml E D S Ps A K T N I hh w) [.ref D, .int (nI 0)] (some (.int (lnFact S nc 0))) (ml E D S Ps A K T N I hh w) := by
  refine Cd.of RX4 rfl (by decide) [some (.ref D), some (.int (nI 0))] (Nat.le_of_ble_eq_true rfl) rfl (fun Γ h f hmn => ?_)
  refine v_iload_n (i := 1) h 0 1 dX4_valueOf_0 rfl rfl ld1 ?_
  refine v_tableIn h 1 60 dX4_valueOf_1 (by decide) (by decide) (off := 59) (by decide) (by decide) ?_
  refine v_aload_n (i := 0) h 60 61 dX4_valueOf_60 rfl rfl ld0 ?_
  refine v_get h 61 64 dX4_valueOf_61 rfl fo_X4_7 ml_ob rfl ?_
  refine v_iconst (v := nI 0) h 64 65 dX4_valueOf_64 rfl (by decide) ?_
  refine v_ildSm h 65 66 _ dX4_valueOf_65 rfl (by omega) ?_
  exact v_iret h 66 f dX4_valueOf_66 rfl (Nat.zero_le _) (Nat.zero_le _) rfl rfl

set_option maxRecDepth 100000 in
set_option maxHeartbeats 4000000 in
theorem k_valueOf1 {E : EE} {D : Nat} {S : St} {Ps : Nat → St} {A K T N I : St} {hh : Int64} {w : Wo} {nc : Nat} (e7 : S 7 = nI nc) (hm : nc ≤ 14) (hzz : ∀ c, c < nc → S (13 + 8 * c + 3) = 0 ∨ S (13 + 8 * c + 3) = 1) : Cd E mX4_valueOf (ml E D S Ps A K T N I hh w) [.ref D, .int (nI 1)] (some (.int (lnFact S nc 1))) (ml E D S Ps A K T N I hh w) := by
  refine Cd.of RX4 rfl (by decide) [some (.ref D), some (.int (nI 1))] (Nat.le_of_ble_eq_true rfl) rfl (fun Γ h f hmn => ?_)
  refine v_iload_n (i := 1) h 0 1 dX4_valueOf_0 rfl rfl ld1 ?_
  refine v_tableIn h 1 67 dX4_valueOf_1 (by decide) (by decide) (off := 66) (by decide) (by decide) ?_
  refine v_aload_n (i := 0) h 67 68 dX4_valueOf_67 rfl rfl ld0 ?_
  refine v_get h 68 71 dX4_valueOf_68 rfl fo_X4_7 ml_ob rfl ?_
  refine v_bipush (v := nI 7) h 71 73 dX4_valueOf_71 rfl (by decide) ?_
  refine v_iload_n (i := 1) h 73 74 dX4_valueOf_73 rfl rfl ld1 ?_
  refine v_iadd h 74 75 dX4_valueOf_74 rfl ?_
  refine v_iconst (v := 1) h 75 76 dX4_valueOf_75 rfl (by decide) ?_
  refine v_isub h 76 77 dX4_valueOf_76 rfl ?_
  rw [show nI 7 + nI 1 - 1 = nI 7 by decide]
  refine v_ildSm h 77 78 _ dX4_valueOf_77 rfl (by omega) ?_
  exact v_iret h 78 f dX4_valueOf_78 rfl (Nat.zero_le _) (Nat.zero_le _) rfl rfl

set_option maxRecDepth 100000 in
set_option maxHeartbeats 4000000 in
theorem k_valueOf2 {E : EE} {D : Nat} {S : St} {Ps : Nat → St} {A K T N I : St} {hh : Int64} {w : Wo} {nc : Nat} (e7 : S 7 = nI nc) (hm : nc ≤ 14) (hzz : ∀ c, c < nc → S (13 + 8 * c + 3) = 0 ∨ S (13 + 8 * c + 3) = 1) : Cd E mX4_valueOf (ml E D S Ps A K T N I hh w) [.ref D, .int (nI 2)] (some (.int (lnFact S nc 2))) (ml E D S Ps A K T N I hh w) := by
  refine Cd.of RX4 rfl (by decide) [some (.ref D), some (.int (nI 2))] (Nat.le_of_ble_eq_true rfl) rfl (fun Γ h f hmn => ?_)
  refine v_iload_n (i := 1) h 0 1 dX4_valueOf_0 rfl rfl ld1 ?_
  refine v_tableIn h 1 67 dX4_valueOf_1 (by decide) (by decide) (off := 66) (by decide) (by decide) ?_
  refine v_aload_n (i := 0) h 67 68 dX4_valueOf_67 rfl rfl ld0 ?_
  refine v_get h 68 71 dX4_valueOf_68 rfl fo_X4_7 ml_ob rfl ?_
  refine v_bipush (v := nI 7) h 71 73 dX4_valueOf_71 rfl (by decide) ?_
  refine v_iload_n (i := 1) h 73 74 dX4_valueOf_73 rfl rfl ld1 ?_
  refine v_iadd h 74 75 dX4_valueOf_74 rfl ?_
  refine v_iconst (v := 1) h 75 76 dX4_valueOf_75 rfl (by decide) ?_
  refine v_isub h 76 77 dX4_valueOf_76 rfl ?_
  rw [show nI 7 + nI 2 - 1 = nI 8 by decide]
  refine v_ildSm h 77 78 _ dX4_valueOf_77 rfl (by omega) ?_
  exact v_iret h 78 f dX4_valueOf_78 rfl (Nat.zero_le _) (Nat.zero_le _) rfl rfl

set_option maxRecDepth 100000 in
set_option maxHeartbeats 4000000 in
theorem k_valueOf3 {E : EE} {D : Nat} {S : St} {Ps : Nat → St} {A K T N I : St} {hh : Int64} {w : Wo} {nc : Nat} (e7 : S 7 = nI nc) (hm : nc ≤ 14) (hzz : ∀ c, c < nc → S (13 + 8 * c + 3) = 0 ∨ S (13 + 8 * c + 3) = 1) : Cd E mX4_valueOf (ml E D S Ps A K T N I hh w) [.ref D, .int (nI 3)] (some (.int (lnFact S nc 3))) (ml E D S Ps A K T N I hh w) := by
  refine Cd.of RX4 rfl (by decide) [some (.ref D), some (.int (nI 3))] (Nat.le_of_ble_eq_true rfl) rfl (fun Γ h f hmn => ?_)
  refine v_iload_n (i := 1) h 0 1 dX4_valueOf_0 rfl rfl ld1 ?_
  refine v_tableIn h 1 67 dX4_valueOf_1 (by decide) (by decide) (off := 66) (by decide) (by decide) ?_
  refine v_aload_n (i := 0) h 67 68 dX4_valueOf_67 rfl rfl ld0 ?_
  refine v_get h 68 71 dX4_valueOf_68 rfl fo_X4_7 ml_ob rfl ?_
  refine v_bipush (v := nI 7) h 71 73 dX4_valueOf_71 rfl (by decide) ?_
  refine v_iload_n (i := 1) h 73 74 dX4_valueOf_73 rfl rfl ld1 ?_
  refine v_iadd h 74 75 dX4_valueOf_74 rfl ?_
  refine v_iconst (v := 1) h 75 76 dX4_valueOf_75 rfl (by decide) ?_
  refine v_isub h 76 77 dX4_valueOf_76 rfl ?_
  rw [show nI 7 + nI 3 - 1 = nI 9 by decide]
  refine v_ildSm h 77 78 _ dX4_valueOf_77 rfl (by omega) ?_
  exact v_iret h 78 f dX4_valueOf_78 rfl (Nat.zero_le _) (Nat.zero_le _) rfl rfl

set_option maxRecDepth 100000 in
set_option maxHeartbeats 4000000 in
theorem k_valueOf4 {E : EE} {D : Nat} {S : St} {Ps : Nat → St} {A K T N I : St} {hh : Int64} {w : Wo} {nc : Nat} (e7 : S 7 = nI nc) (hm : nc ≤ 14) (hzz : ∀ c, c < nc → S (13 + 8 * c + 3) = 0 ∨ S (13 + 8 * c + 3) = 1) : Cd E mX4_valueOf (ml E D S Ps A K T N I hh w) [.ref D, .int (nI 4)] (some (.int (lnFact S nc 4))) (ml E D S Ps A K T N I hh w) := by
  refine Cd.of RX4 rfl (by decide) [some (.ref D), some (.int (nI 4))] (Nat.le_of_ble_eq_true rfl) rfl (fun Γ h f hmn => ?_)
  refine v_iload_n (i := 1) h 0 1 dX4_valueOf_0 rfl rfl ld1 ?_
  refine v_tableIn h 1 79 dX4_valueOf_1 (by decide) (by decide) (off := 78) (by decide) (by decide) ?_
  refine v_aload_n (i := 0) h 79 80 dX4_valueOf_79 rfl rfl ld0 ?_
  refine v_iload_n (i := 1) h 80 81 dX4_valueOf_80 rfl rfl ld1 ?_
  refine v_iconst (v := 4) h 81 82 dX4_valueOf_81 rfl (by decide) ?_
  refine v_isub h 82 83 dX4_valueOf_82 rfl ?_
  rw [show nI 4 - 4 = 0 by decide]
  refine v_iconst (v := 0) h 83 84 dX4_valueOf_83 rfl (by decide) ?_
  refine v_callV1 h 84 87 dX4_valueOf_84 rfl cb_X4_sumOf cv_X4_sumOf ml_ob lk_X4_125 (rok (by decide) (by decide)) ⟨rfl, rfl⟩ ⟨Nat.zero_le _, Nat.zero_le _⟩ (k_sum0 e7 hm _) rfl rfl (Nat.le_of_ble_eq_true rfl) ?_
  exact v_iret h 87 f dX4_valueOf_87 rfl (Nat.zero_le _) (Nat.zero_le _) rfl rfl

set_option maxRecDepth 100000 in
set_option maxHeartbeats 4000000 in
theorem k_valueOf5 {E : EE} {D : Nat} {S : St} {Ps : Nat → St} {A K T N I : St} {hh : Int64} {w : Wo} {nc : Nat} (e7 : S 7 = nI nc) (hm : nc ≤ 14) (hzz : ∀ c, c < nc → S (13 + 8 * c + 3) = 0 ∨ S (13 + 8 * c + 3) = 1) : Cd E mX4_valueOf (ml E D S Ps A K T N I hh w) [.ref D, .int (nI 5)] (some (.int (lnFact S nc 5))) (ml E D S Ps A K T N I hh w) := by
  refine Cd.of RX4 rfl (by decide) [some (.ref D), some (.int (nI 5))] (Nat.le_of_ble_eq_true rfl) rfl (fun Γ h f hmn => ?_)
  refine v_iload_n (i := 1) h 0 1 dX4_valueOf_0 rfl rfl ld1 ?_
  refine v_tableIn h 1 79 dX4_valueOf_1 (by decide) (by decide) (off := 78) (by decide) (by decide) ?_
  refine v_aload_n (i := 0) h 79 80 dX4_valueOf_79 rfl rfl ld0 ?_
  refine v_iload_n (i := 1) h 80 81 dX4_valueOf_80 rfl rfl ld1 ?_
  refine v_iconst (v := 4) h 81 82 dX4_valueOf_81 rfl (by decide) ?_
  refine v_isub h 82 83 dX4_valueOf_82 rfl ?_
  rw [show nI 5 - 4 = 1 by decide]
  refine v_iconst (v := 0) h 83 84 dX4_valueOf_83 rfl (by decide) ?_
  refine v_callV1 h 84 87 dX4_valueOf_84 rfl cb_X4_sumOf cv_X4_sumOf ml_ob lk_X4_125 (rok (by decide) (by decide)) ⟨rfl, rfl⟩ ⟨Nat.zero_le _, Nat.zero_le _⟩ (k_sum0 e7 hm _) rfl rfl (Nat.le_of_ble_eq_true rfl) ?_
  exact v_iret h 87 f dX4_valueOf_87 rfl (Nat.zero_le _) (Nat.zero_le _) rfl rfl

set_option maxRecDepth 100000 in
set_option maxHeartbeats 4000000 in
theorem k_valueOf6 {E : EE} {D : Nat} {S : St} {Ps : Nat → St} {A K T N I : St} {hh : Int64} {w : Wo} {nc : Nat} (e7 : S 7 = nI nc) (hm : nc ≤ 14) (hzz : ∀ c, c < nc → S (13 + 8 * c + 3) = 0 ∨ S (13 + 8 * c + 3) = 1) : Cd E mX4_valueOf (ml E D S Ps A K T N I hh w) [.ref D, .int (nI 6)] (some (.int (lnFact S nc 6))) (ml E D S Ps A K T N I hh w) := by
  refine Cd.of RX4 rfl (by decide) [some (.ref D), some (.int (nI 6))] (Nat.le_of_ble_eq_true rfl) rfl (fun Γ h f hmn => ?_)
  refine v_iload_n (i := 1) h 0 1 dX4_valueOf_0 rfl rfl ld1 ?_
  refine v_tableIn h 1 79 dX4_valueOf_1 (by decide) (by decide) (off := 78) (by decide) (by decide) ?_
  refine v_aload_n (i := 0) h 79 80 dX4_valueOf_79 rfl rfl ld0 ?_
  refine v_iload_n (i := 1) h 80 81 dX4_valueOf_80 rfl rfl ld1 ?_
  refine v_iconst (v := 4) h 81 82 dX4_valueOf_81 rfl (by decide) ?_
  refine v_isub h 82 83 dX4_valueOf_82 rfl ?_
  rw [show nI 6 - 4 = 2 by decide]
  refine v_iconst (v := 0) h 83 84 dX4_valueOf_83 rfl (by decide) ?_
  refine v_callV1 h 84 87 dX4_valueOf_84 rfl cb_X4_sumOf cv_X4_sumOf ml_ob lk_X4_125 (rok (by decide) (by decide)) ⟨rfl, rfl⟩ ⟨Nat.zero_le _, Nat.zero_le _⟩ (k_sum0 e7 hm _) rfl rfl (Nat.le_of_ble_eq_true rfl) ?_
  exact v_iret h 87 f dX4_valueOf_87 rfl (Nat.zero_le _) (Nat.zero_le _) rfl rfl

set_option maxRecDepth 100000 in
set_option maxHeartbeats 4000000 in
theorem k_valueOf7 {E : EE} {D : Nat} {S : St} {Ps : Nat → St} {A K T N I : St} {hh : Int64} {w : Wo} {nc : Nat} (e7 : S 7 = nI nc) (hm : nc ≤ 14) (hzz : ∀ c, c < nc → S (13 + 8 * c + 3) = 0 ∨ S (13 + 8 * c + 3) = 1) : Cd E mX4_valueOf (ml E D S Ps A K T N I hh w) [.ref D, .int (nI 7)] (some (.int (lnFact S nc 7))) (ml E D S Ps A K T N I hh w) := by
  refine Cd.of RX4 rfl (by decide) [some (.ref D), some (.int (nI 7))] (Nat.le_of_ble_eq_true rfl) rfl (fun Γ h f hmn => ?_)
  refine v_iload_n (i := 1) h 0 1 dX4_valueOf_0 rfl rfl ld1 ?_
  refine v_tableIn h 1 88 dX4_valueOf_1 (by decide) (by decide) (off := 87) (by decide) (by decide) ?_
  refine v_aload_n (i := 0) h 88 89 dX4_valueOf_88 rfl rfl ld0 ?_
  refine v_iconst (v := 0) h 89 90 dX4_valueOf_89 rfl (by decide) ?_
  refine v_iconst (v := 1) h 90 91 dX4_valueOf_90 rfl (by decide) ?_
  refine v_callV1 h 91 94 dX4_valueOf_91 rfl cb_X4_sumOf cv_X4_sumOf ml_ob lk_X4_125 (rok (by decide) (by decide)) ⟨rfl, rfl⟩ ⟨Nat.zero_le _, Nat.zero_le _⟩ (k_sum1 e7 hm _) rfl rfl (Nat.le_of_ble_eq_true rfl) ?_
  refine v_aload_n (i := 0) h 94 95 dX4_valueOf_94 rfl rfl ld0 ?_
  refine v_iconst (v := 1) h 95 96 dX4_valueOf_95 rfl (by decide) ?_
  refine v_iconst (v := 1) h 96 97 dX4_valueOf_96 rfl (by decide) ?_
  refine v_callV1 h 97 100 dX4_valueOf_97 rfl cb_X4_sumOf cv_X4_sumOf ml_ob lk_X4_125 (rok (by decide) (by decide)) ⟨rfl, rfl⟩ ⟨Nat.zero_le _, Nat.zero_le _⟩ (k_sum1 e7 hm _) rfl rfl (Nat.le_of_ble_eq_true rfl) ?_
  refine v_iadd h 100 101 dX4_valueOf_100 rfl ?_
  exact v_iret h 101 f dX4_valueOf_101 rfl (Nat.zero_le _) (Nat.zero_le _) rfl rfl

set_option maxRecDepth 100000 in
set_option maxHeartbeats 4000000 in
theorem k_valueOf8 {E : EE} {D : Nat} {S : St} {Ps : Nat → St} {A K T N I : St} {hh : Int64} {w : Wo} {nc : Nat} (e7 : S 7 = nI nc) (hm : nc ≤ 14) (hzz : ∀ c, c < nc → S (13 + 8 * c + 3) = 0 ∨ S (13 + 8 * c + 3) = 1) : Cd E mX4_valueOf (ml E D S Ps A K T N I hh w) [.ref D, .int (nI 8)] (some (.int (lnFact S nc 8))) (ml E D S Ps A K T N I hh w) := by
  refine Cd.of RX4 rfl (by decide) [some (.ref D), some (.int (nI 8))] (Nat.le_of_ble_eq_true rfl) rfl (fun Γ h f hmn => ?_)
  refine v_iload_n (i := 1) h 0 1 dX4_valueOf_0 rfl rfl ld1 ?_
  refine v_tableIn h 1 102 dX4_valueOf_1 (by decide) (by decide) (off := 101) (by decide) (by decide) ?_
  refine v_aload_n (i := 0) h 102 103 dX4_valueOf_102 rfl rfl ld0 ?_
  refine v_iconst (v := 2) h 103 104 dX4_valueOf_103 rfl (by decide) ?_
  refine v_iconst (v := 1) h 104 105 dX4_valueOf_104 rfl (by decide) ?_
  refine v_callV1 h 105 108 dX4_valueOf_105 rfl cb_X4_sumOf cv_X4_sumOf ml_ob lk_X4_125 (rok (by decide) (by decide)) ⟨rfl, rfl⟩ ⟨Nat.zero_le _, Nat.zero_le _⟩ (k_sum1 e7 hm _) rfl rfl (Nat.le_of_ble_eq_true rfl) ?_
  exact v_iret h 108 f dX4_valueOf_108 rfl (Nat.zero_le _) (Nat.zero_le _) rfl rfl

set_option maxRecDepth 100000 in
set_option maxHeartbeats 4000000 in
theorem k_valueOf9 {E : EE} {D : Nat} {S : St} {Ps : Nat → St} {A K T N I : St} {hh : Int64} {w : Wo} {nc : Nat} (e7 : S 7 = nI nc) (hm : nc ≤ 14) (hzz : ∀ c, c < nc → S (13 + 8 * c + 3) = 0 ∨ S (13 + 8 * c + 3) = 1) : Cd E mX4_valueOf (ml E D S Ps A K T N I hh w) [.ref D, .int (nI 9)] (some (.int (lnFact S nc 9))) (ml E D S Ps A K T N I hh w) := by
  refine Cd.of RX4 rfl (by decide) [some (.ref D), some (.int (nI 9))] (Nat.le_of_ble_eq_true rfl) rfl (fun Γ h f hmn => ?_)
  refine v_iload_n (i := 1) h 0 1 dX4_valueOf_0 rfl rfl ld1 ?_
  refine v_tableIn h 1 109 dX4_valueOf_1 (by decide) (by decide) (off := 108) (by decide) (by decide) ?_
  refine v_aload_n (i := 0) h 109 110 dX4_valueOf_109 rfl rfl ld0 ?_
  refine v_get h 110 113 dX4_valueOf_110 rfl fo_X4_7 ml_ob rfl ?_
  refine v_bipush (v := nI 10) h 113 115 dX4_valueOf_113 rfl (by decide) ?_
  refine v_iload_n (i := 1) h 115 116 dX4_valueOf_115 rfl rfl ld1 ?_
  refine v_iadd h 116 117 dX4_valueOf_116 rfl ?_
  refine v_bipush (v := 9) h 117 119 dX4_valueOf_117 rfl (by decide) ?_
  refine v_isub h 119 120 dX4_valueOf_119 rfl ?_
  rw [show nI 10 + nI 9 - 9 = nI 10 by decide]
  refine v_ildSm h 120 121 _ dX4_valueOf_120 rfl (by omega) ?_
  exact v_iret h 121 f dX4_valueOf_121 rfl (Nat.zero_le _) (Nat.zero_le _) rfl rfl

set_option maxRecDepth 100000 in
set_option maxHeartbeats 4000000 in
theorem k_valueOf10 {E : EE} {D : Nat} {S : St} {Ps : Nat → St} {A K T N I : St} {hh : Int64} {w : Wo} {nc : Nat} (e7 : S 7 = nI nc) (hm : nc ≤ 14) (hzz : ∀ c, c < nc → S (13 + 8 * c + 3) = 0 ∨ S (13 + 8 * c + 3) = 1) : Cd E mX4_valueOf (ml E D S Ps A K T N I hh w) [.ref D, .int (nI 10)] (some (.int (lnFact S nc 10))) (ml E D S Ps A K T N I hh w) := by
  refine Cd.of RX4 rfl (by decide) [some (.ref D), some (.int (nI 10))] (Nat.le_of_ble_eq_true rfl) rfl (fun Γ h f hmn => ?_)
  refine v_iload_n (i := 1) h 0 1 dX4_valueOf_0 rfl rfl ld1 ?_
  refine v_tableIn h 1 109 dX4_valueOf_1 (by decide) (by decide) (off := 108) (by decide) (by decide) ?_
  refine v_aload_n (i := 0) h 109 110 dX4_valueOf_109 rfl rfl ld0 ?_
  refine v_get h 110 113 dX4_valueOf_110 rfl fo_X4_7 ml_ob rfl ?_
  refine v_bipush (v := nI 10) h 113 115 dX4_valueOf_113 rfl (by decide) ?_
  refine v_iload_n (i := 1) h 115 116 dX4_valueOf_115 rfl rfl ld1 ?_
  refine v_iadd h 116 117 dX4_valueOf_116 rfl ?_
  refine v_bipush (v := 9) h 117 119 dX4_valueOf_117 rfl (by decide) ?_
  refine v_isub h 119 120 dX4_valueOf_119 rfl ?_
  rw [show nI 10 + nI 10 - 9 = nI 11 by decide]
  refine v_ildSm h 120 121 _ dX4_valueOf_120 rfl (by omega) ?_
  exact v_iret h 121 f dX4_valueOf_121 rfl (Nat.zero_le _) (Nat.zero_le _) rfl rfl

set_option maxRecDepth 100000 in
set_option maxHeartbeats 4000000 in
theorem k_valueOf11 {E : EE} {D : Nat} {S : St} {Ps : Nat → St} {A K T N I : St} {hh : Int64} {w : Wo} {nc : Nat} (e7 : S 7 = nI nc) (hm : nc ≤ 14) (hzz : ∀ c, c < nc → S (13 + 8 * c + 3) = 0 ∨ S (13 + 8 * c + 3) = 1) : Cd E mX4_valueOf (ml E D S Ps A K T N I hh w) [.ref D, .int (nI 11)] (some (.int (lnFact S nc 11))) (ml E D S Ps A K T N I hh w) := by
  refine Cd.of RX4 rfl (by decide) [some (.ref D), some (.int (nI 11))] (Nat.le_of_ble_eq_true rfl) rfl (fun Γ h f hmn => ?_)
  refine v_iload_n (i := 1) h 0 1 dX4_valueOf_0 rfl rfl ld1 ?_
  refine v_tableOut h 1 122 dX4_valueOf_1 (by decide) (by decide) ?_
  refine v_aload_n (i := 0) h 122 123 dX4_valueOf_122 rfl rfl ld0 ?_
  refine v_callV1 h 123 126 dX4_valueOf_123 rfl cb_X4_greatestRank cv_X4_greatestRank ml_ob lk_X4_129 (rok (by decide) (by decide)) ⟨rfl, rfl⟩ ⟨Nat.zero_le _, Nat.zero_le _⟩ (k_greatM e7 hm hzz) rfl rfl (Nat.le_of_ble_eq_true rfl) ?_
  exact v_iret h 126 f dX4_valueOf_126 rfl (Nat.zero_le _) (Nat.zero_le _) rfl rfl

theorem k_valueOf {E : EE} {D : Nat} {S : St} {Ps : Nat → St} {A K T N I : St} {hh : Int64} {w : Wo} {k : Nat} {nc : Nat} (e7 : S 7 = nI nc) (hm : nc ≤ 14) (hzz : ∀ c, c < nc → S (13 + 8 * c + 3) = 0 ∨ S (13 + 8 * c + 3) = 1) (hk : k < 12) : Cd E mX4_valueOf (ml E D S Ps A K T N I hh w) [.ref D, .int (nI k)] (some (.int (lnFact S nc k))) (ml E D S Ps A K T N I hh w) := by
  rcases (show k = 0 ∨ k = 1 ∨ k = 2 ∨ k = 3 ∨ k = 4 ∨ k = 5 ∨ k = 6 ∨ k = 7 ∨ k = 8 ∨ k = 9 ∨ k = 10 ∨ k = 11 by omega) with rfl | rfl | rfl | rfl | rfl | rfl | rfl | rfl | rfl | rfl | rfl | rfl
  · exact k_valueOf0 e7 hm hzz
  · exact k_valueOf1 e7 hm hzz
  · exact k_valueOf2 e7 hm hzz
  · exact k_valueOf3 e7 hm hzz
  · exact k_valueOf4 e7 hm hzz
  · exact k_valueOf5 e7 hm hzz
  · exact k_valueOf6 e7 hm hzz
  · exact k_valueOf7 e7 hm hzz
  · exact k_valueOf8 e7 hm hzz
  · exact k_valueOf9 e7 hm hzz
  · exact k_valueOf10 e7 hm hzz
  · exact k_valueOf11 e7 hm hzz
set_option maxRecDepth 100000 in
set_option maxHeartbeats 4000000 in
theorem r_value1 {E : EE} {D : Nat} {S : St} {Ps : Nat → St} {A K T N I : St} {hh : Int64} {w : Wo} {x : Int32} (z : x < 0 ∨ 11 < x) : Cd E mX4_value (ml E D S Ps A K T N I hh w) [.ref D, .int x] (some (.int 0)) (ml E D S Ps A K T N (upd I 2 1) hh w) := by
  refine Cd.of RX4 rfl (by decide) [some (.ref D), some (.int x)] (Nat.le_of_ble_eq_true rfl) rfl (fun Γ h f hmn => ?_)
  refine v_iload_n (i := 1) h 0 1 dX4_value_0 rfl rfl ld1 ?_
  refine v_iconst (v := 0) h 1 2 dX4_value_1 rfl (by decide) ?_
  refine v_bipush (v := 11) h 2 4 dX4_value_2 rfl (by decide) ?_
  refine v_callS1 h 4 7 dX4_value_4 rfl cb_X4_in cs_X4_in lk_X4_95 (rok (by decide) (by decide)) ⟨rfl, rfl⟩ ⟨Nat.zero_le _, Nat.zero_le _⟩ (k_inN z) rfl rfl (Nat.le_of_ble_eq_true rfl) ?_
  refine v_if_eq h 7 10 22 dX4_value_7 rfl (by decide) (fun h7 => ?_) (fun h7 => absurd (by decide) h7)
  refine v_aload_n (i := 0) h 22 23 dX4_value_22 rfl rfl ld0 ?_
  refine v_iconst (v := 1) h 23 24 dX4_value_23 rfl (by decide) ?_
  refine v_callV1 h 24 27 dX4_value_24 rfl cb_X4_fails cv_X4_fails ml_ob lk_X4_92 (rok (by decide) (by decide)) ⟨rfl, rfl⟩ ⟨Nat.zero_le _, Nat.zero_le _⟩ (k_fails _) rfl rfl (Nat.le_of_ble_eq_true rfl) ?_
  exact v_iret h 27 f dX4_value_27 rfl (Nat.zero_le _) (Nat.zero_le _) rfl rfl

set_option maxRecDepth 100000 in
set_option maxHeartbeats 4000000 in
theorem r_value {E : EE} {D : Nat} {S : St} {Ps : Nat → St} {A K T N I : St} {hh : Int64} {w : Wo} {k : Nat} {nc : Nat} (e7 : S 7 = nI nc) (hm : nc ≤ 14) (hzz : ∀ c, c < nc → S (13 + 8 * c + 3) = 0 ∨ S (13 + 8 * c + 3) = 1) (hk : k < 12) (y1 : ¬ nI k < 0) (y2 : ¬ 11 < nI k) : Cd E mX4_value (ml E D S Ps A K T N I hh w) [.ref D, .int (nI k)] (some (.int (lnFact S nc k))) (ml E D S Ps A K T N (upd I 2 0) hh w) := by
  refine Cd.of RX4 rfl (by decide) [some (.ref D), some (.int (nI k))] (Nat.le_of_ble_eq_true rfl) rfl (fun Γ h f hmn => ?_)
  refine v_iload_n (i := 1) h 0 1 dX4_value_0 rfl rfl ld1 ?_
  refine v_iconst (v := 0) h 1 2 dX4_value_1 rfl (by decide) ?_
  refine v_bipush (v := 11) h 2 4 dX4_value_2 rfl (by decide) ?_
  refine v_callS1 h 4 7 dX4_value_4 rfl cb_X4_in cs_X4_in lk_X4_95 (rok (by decide) (by decide)) ⟨rfl, rfl⟩ ⟨Nat.zero_le _, Nat.zero_le _⟩ (k_inY y1 y2) rfl rfl (Nat.le_of_ble_eq_true rfl) ?_
  refine v_if_eq h 7 10 22 dX4_value_7 rfl (by decide) (fun h7 => absurd h7 (by decide)) (fun h7 => ?_)
  refine v_aload_n (i := 0) h 10 11 dX4_value_10 rfl rfl ld0 ?_
  refine v_aload_n (i := 0) h 11 12 dX4_value_11 rfl rfl ld0 ?_
  refine v_iload_n (i := 1) h 12 13 dX4_value_12 rfl rfl ld1 ?_
  refine v_callV1 h 13 16 dX4_value_13 rfl cb_X4_valueOf cv_X4_valueOf ml_ob lk_X4_133 (rok (by decide) (by decide)) ⟨rfl, rfl⟩ ⟨Nat.zero_le _, Nat.zero_le _⟩ (k_valueOf e7 hm hzz hk) rfl rfl (Nat.le_of_ble_eq_true rfl) ?_
  refine v_callV1 h 16 19 dX4_value_16 rfl cb_X4_tells cv_X4_tells ml_ob lk_X4_39 (rok (by decide) (by decide)) ⟨rfl, rfl⟩ ⟨Nat.zero_le _, Nat.zero_le _⟩ (k_tells _) rfl rfl (Nat.le_of_ble_eq_true rfl) ?_
  refine v_goto h 19 27 dX4_value_19 (by decide) ?_
  exact v_iret h 27 f dX4_value_27 rfl (Nat.zero_le _) (Nat.zero_le _) rfl rfl

set_option maxRecDepth 100000 in
set_option maxHeartbeats 4000000 in
theorem r_way1 {E : EE} {D : Nat} {S : St} {Ps : Nat → St} {A K T N I : St} {hh : Int64} {w : Wo} {x y : Int32} (z : x < 0 ∨ S 0 ≤ x) : Cd E mX4_way (ml E D S Ps A K T N I hh w) [.ref D, .int x, .int y] (some (.int 0)) (ml E D S Ps A K T N (upd I 2 1) hh w) := by
  refine Cd.of RX4 rfl (by decide) [some (.ref D), some (.int x), some (.int y)] (Nat.le_of_ble_eq_true rfl) rfl (fun Γ h f hmn => ?_)
  refine v_aload_n (i := 0) h 0 1 dX4_way_0 rfl rfl ld0 ?_
  refine v_iload_n (i := 1) h 1 2 dX4_way_1 rfl rfl ld1 ?_
  refine v_callV1 h 2 5 dX4_way_2 rfl cb_X4_isSpan cv_X4_isSpan ml_ob lk_X4_88 (rok (by decide) (by decide)) ⟨rfl, rfl⟩ ⟨Nat.zero_le _, Nat.zero_le _⟩ (k_isSpanN z) rfl rfl (Nat.le_of_ble_eq_true rfl) ?_
  refine v_if_eq h 5 8 29 dX4_way_5 rfl (by decide) (fun h5 => ?_) (fun h5 => absurd (by decide) h5)
  refine v_aload_n (i := 0) h 29 30 dX4_way_29 rfl rfl ld0 ?_
  refine v_iconst (v := 1) h 30 31 dX4_way_30 rfl (by decide) ?_
  refine v_callV1 h 31 34 dX4_way_31 rfl cb_X4_fails cv_X4_fails ml_ob lk_X4_92 (rok (by decide) (by decide)) ⟨rfl, rfl⟩ ⟨Nat.zero_le _, Nat.zero_le _⟩ (k_fails _) rfl rfl (Nat.le_of_ble_eq_true rfl) ?_
  exact v_iret h 34 f dX4_way_34 rfl (Nat.zero_le _) (Nat.zero_le _) rfl rfl

set_option maxRecDepth 100000 in
set_option maxHeartbeats 4000000 in
theorem r_way1b {E : EE} {D : Nat} {S : St} {Ps : Nat → St} {A K T N I : St} {hh : Int64} {w : Wo} {x y : Int32} (y1 : ¬ x < 0) (y2 : ¬ S 0 ≤ x) (z : y < 0 ∨ S 0 ≤ y) : Cd E mX4_way (ml E D S Ps A K T N I hh w) [.ref D, .int x, .int y] (some (.int 0)) (ml E D S Ps A K T N (upd I 2 1) hh w) := by
  refine Cd.of RX4 rfl (by decide) [some (.ref D), some (.int x), some (.int y)] (Nat.le_of_ble_eq_true rfl) rfl (fun Γ h f hmn => ?_)
  refine v_aload_n (i := 0) h 0 1 dX4_way_0 rfl rfl ld0 ?_
  refine v_iload_n (i := 1) h 1 2 dX4_way_1 rfl rfl ld1 ?_
  refine v_callV1 h 2 5 dX4_way_2 rfl cb_X4_isSpan cv_X4_isSpan ml_ob lk_X4_88 (rok (by decide) (by decide)) ⟨rfl, rfl⟩ ⟨Nat.zero_le _, Nat.zero_le _⟩ (k_isSpanY y1 y2) rfl rfl (Nat.le_of_ble_eq_true rfl) ?_
  refine v_if_eq h 5 8 29 dX4_way_5 rfl (by decide) (fun h5 => absurd h5 (by decide)) (fun h5 => ?_)
  refine v_aload_n (i := 0) h 8 9 dX4_way_8 rfl rfl ld0 ?_
  refine v_iload_n (i := 2) h 9 10 dX4_way_9 rfl rfl ld2 ?_
  refine v_callV1 h 10 13 dX4_way_10 rfl cb_X4_isSpan cv_X4_isSpan ml_ob lk_X4_88 (rok (by decide) (by decide)) ⟨rfl, rfl⟩ ⟨Nat.zero_le _, Nat.zero_le _⟩ (k_isSpanN z) rfl rfl (Nat.le_of_ble_eq_true rfl) ?_
  refine v_if_eq h 13 16 29 dX4_way_13 rfl (by decide) (fun h13 => ?_) (fun h13 => absurd (by decide) h13)
  refine v_aload_n (i := 0) h 29 30 dX4_way_29 rfl rfl ld0 ?_
  refine v_iconst (v := 1) h 30 31 dX4_way_30 rfl (by decide) ?_
  refine v_callV1 h 31 34 dX4_way_31 rfl cb_X4_fails cv_X4_fails ml_ob lk_X4_92 (rok (by decide) (by decide)) ⟨rfl, rfl⟩ ⟨Nat.zero_le _, Nat.zero_le _⟩ (k_fails _) rfl rfl (Nat.le_of_ble_eq_true rfl) ?_
  exact v_iret h 34 f dX4_way_34 rfl (Nat.zero_le _) (Nat.zero_le _) rfl rfl

set_option maxRecDepth 100000 in
set_option maxHeartbeats 4000000 in
theorem r_way {E : EE} {D : Nat} {S : St} {Ps : Nat → St} {A K T N I : St} {hh : Int64} {w : Wo} {x y : Int32} (y1 : ¬ x < 0) (y2 : ¬ S 0 ≤ x) (y3 : ¬ y < 0) (y4 : ¬ S 0 ≤ y) (hx : InS x) (hy : InS y) : Cd E mX4_way (ml E D S Ps A K T N I hh w) [.ref D, .int x, .int y] (some (.int (wayV S x y))) (ml E D S Ps A K T N (upd I 2 0) hh w) := by
  refine Cd.of RX4 rfl (by decide) [some (.ref D), some (.int x), some (.int y)] (Nat.le_of_ble_eq_true rfl) rfl (fun Γ h f hmn => ?_)
  refine v_aload_n (i := 0) h 0 1 dX4_way_0 rfl rfl ld0 ?_
  refine v_iload_n (i := 1) h 1 2 dX4_way_1 rfl rfl ld1 ?_
  refine v_callV1 h 2 5 dX4_way_2 rfl cb_X4_isSpan cv_X4_isSpan ml_ob lk_X4_88 (rok (by decide) (by decide)) ⟨rfl, rfl⟩ ⟨Nat.zero_le _, Nat.zero_le _⟩ (k_isSpanY y1 y2) rfl rfl (Nat.le_of_ble_eq_true rfl) ?_
  refine v_if_eq h 5 8 29 dX4_way_5 rfl (by decide) (fun h5 => absurd h5 (by decide)) (fun h5 => ?_)
  refine v_aload_n (i := 0) h 8 9 dX4_way_8 rfl rfl ld0 ?_
  refine v_iload_n (i := 2) h 9 10 dX4_way_9 rfl rfl ld2 ?_
  refine v_callV1 h 10 13 dX4_way_10 rfl cb_X4_isSpan cv_X4_isSpan ml_ob lk_X4_88 (rok (by decide) (by decide)) ⟨rfl, rfl⟩ ⟨Nat.zero_le _, Nat.zero_le _⟩ (k_isSpanY y3 y4) rfl rfl (Nat.le_of_ble_eq_true rfl) ?_
  refine v_if_eq h 13 16 29 dX4_way_13 rfl (by decide) (fun h13 => absurd h13 (by decide)) (fun h13 => ?_)
  refine v_aload_n (i := 0) h 16 17 dX4_way_16 rfl rfl ld0 ?_
  refine v_aload_n (i := 0) h 17 18 dX4_way_17 rfl rfl ld0 ?_
  refine v_iload_n (i := 1) h 18 19 dX4_way_18 rfl rfl ld1 ?_
  refine v_iload_n (i := 2) h 19 20 dX4_way_19 rfl rfl ld2 ?_
  refine v_callV1 h 20 23 dX4_way_20 rfl cb_X4_wayOf cv_X4_wayOf ml_ob lk_X4_53 (rok (by decide) (by decide)) ⟨rfl, rfl⟩ ⟨Nat.zero_le _, Nat.zero_le _⟩ (k_wayOf hx hy) rfl rfl (Nat.le_of_ble_eq_true rfl) ?_
  refine v_callV1 h 23 26 dX4_way_23 rfl cb_X4_tells cv_X4_tells ml_ob lk_X4_39 (rok (by decide) (by decide)) ⟨rfl, rfl⟩ ⟨Nat.zero_le _, Nat.zero_le _⟩ (k_tells _) rfl rfl (Nat.le_of_ble_eq_true rfl) ?_
  refine v_goto h 26 34 dX4_way_26 (by decide) ?_
  exact v_iret h 34 f dX4_way_34 rfl (Nat.zero_le _) (Nat.zero_le _) rfl rfl

set_option maxRecDepth 100000 in
set_option maxHeartbeats 4000000 in
theorem r_work1 {E : EE} {D : Nat} {S : St} {Ps : Nat → St} {A K T N I : St} {hh : Int64} {w : Wo} {x y : Int32} (z : x < 0 ∨ S 7 ≤ x) : Cd E mX4_work (ml E D S Ps A K T N I hh w) [.ref D, .int x, .int y] (some (.int 0)) (ml E D S Ps A K T N (upd I 2 1) hh w) := by
  refine Cd.of RX4 rfl (by decide) [some (.ref D), some (.int x), some (.int y)] (Nat.le_of_ble_eq_true rfl) rfl (fun Γ h f hmn => ?_)
  refine v_aload_n (i := 0) h 0 1 dX4_work_0 rfl rfl ld0 ?_
  refine v_iload_n (i := 1) h 1 2 dX4_work_1 rfl rfl ld1 ?_
  refine v_callV1 h 2 5 dX4_work_2 rfl cb_X4_isChair cv_X4_isChair ml_ob lk_X4_113 (rok (by decide) (by decide)) ⟨rfl, rfl⟩ ⟨Nat.zero_le _, Nat.zero_le _⟩ (k_isChairN z) rfl rfl (Nat.le_of_ble_eq_true rfl) ?_
  refine v_if_eq h 5 8 29 dX4_work_5 rfl (by decide) (fun h5 => ?_) (fun h5 => absurd (by decide) h5)
  refine v_aload_n (i := 0) h 29 30 dX4_work_29 rfl rfl ld0 ?_
  refine v_iconst (v := 1) h 30 31 dX4_work_30 rfl (by decide) ?_
  refine v_callV1 h 31 34 dX4_work_31 rfl cb_X4_fails cv_X4_fails ml_ob lk_X4_92 (rok (by decide) (by decide)) ⟨rfl, rfl⟩ ⟨Nat.zero_le _, Nat.zero_le _⟩ (k_fails _) rfl rfl (Nat.le_of_ble_eq_true rfl) ?_
  exact v_iret h 34 f dX4_work_34 rfl (Nat.zero_le _) (Nat.zero_le _) rfl rfl

set_option maxRecDepth 100000 in
set_option maxHeartbeats 4000000 in
theorem r_work1b {E : EE} {D : Nat} {S : St} {Ps : Nat → St} {A K T N I : St} {hh : Int64} {w : Wo} {x y : Int32} (y1 : ¬ x < 0) (y2 : ¬ S 7 ≤ x) (z : y < 0 ∨ S 8 ≤ y) : Cd E mX4_work (ml E D S Ps A K T N I hh w) [.ref D, .int x, .int y] (some (.int 0)) (ml E D S Ps A K T N (upd I 2 1) hh w) := by
  refine Cd.of RX4 rfl (by decide) [some (.ref D), some (.int x), some (.int y)] (Nat.le_of_ble_eq_true rfl) rfl (fun Γ h f hmn => ?_)
  refine v_aload_n (i := 0) h 0 1 dX4_work_0 rfl rfl ld0 ?_
  refine v_iload_n (i := 1) h 1 2 dX4_work_1 rfl rfl ld1 ?_
  refine v_callV1 h 2 5 dX4_work_2 rfl cb_X4_isChair cv_X4_isChair ml_ob lk_X4_113 (rok (by decide) (by decide)) ⟨rfl, rfl⟩ ⟨Nat.zero_le _, Nat.zero_le _⟩ (k_isChairY y1 y2) rfl rfl (Nat.le_of_ble_eq_true rfl) ?_
  refine v_if_eq h 5 8 29 dX4_work_5 rfl (by decide) (fun h5 => absurd h5 (by decide)) (fun h5 => ?_)
  refine v_aload_n (i := 0) h 8 9 dX4_work_8 rfl rfl ld0 ?_
  refine v_iload_n (i := 2) h 9 10 dX4_work_9 rfl rfl ld2 ?_
  refine v_callV1 h 10 13 dX4_work_10 rfl cb_X4_isTeam cv_X4_isTeam ml_ob lk_X4_116 (rok (by decide) (by decide)) ⟨rfl, rfl⟩ ⟨Nat.zero_le _, Nat.zero_le _⟩ (k_isTeamN z) rfl rfl (Nat.le_of_ble_eq_true rfl) ?_
  refine v_if_eq h 13 16 29 dX4_work_13 rfl (by decide) (fun h13 => ?_) (fun h13 => absurd (by decide) h13)
  refine v_aload_n (i := 0) h 29 30 dX4_work_29 rfl rfl ld0 ?_
  refine v_iconst (v := 1) h 30 31 dX4_work_30 rfl (by decide) ?_
  refine v_callV1 h 31 34 dX4_work_31 rfl cb_X4_fails cv_X4_fails ml_ob lk_X4_92 (rok (by decide) (by decide)) ⟨rfl, rfl⟩ ⟨Nat.zero_le _, Nat.zero_le _⟩ (k_fails _) rfl rfl (Nat.le_of_ble_eq_true rfl) ?_
  exact v_iret h 34 f dX4_work_34 rfl (Nat.zero_le _) (Nat.zero_le _) rfl rfl

set_option maxRecDepth 100000 in
set_option maxHeartbeats 4000000 in
theorem r_work {E : EE} {D : Nat} {S : St} {Ps : Nat → St} {A K T N I : St} {hh : Int64} {w : Wo} {c t nt : Nat} (hnt : nt ≤ 4) (hc : c < 14) (ht : t < nt) (e8 : S 8 = nI nt) (hr : ∃ r, 1 ≤ r ∧ r ≤ 4 ∧ S (13 + 8 * c + 1) = nI r) (hk : ∃ k, k ≤ 30 ∧ S (125 + 8 * t + 1) = nI k) (y1 : ¬ nI c < 0) (y2 : ¬ S 7 ≤ nI c) (y3 : ¬ nI t < 0) (y4 : ¬ S 8 ≤ nI t) : Cd E mX4_work (ml E D S Ps A K T N I hh w) [.ref D, .int (nI c), .int (nI t)] (some (.int (wkS S nt c (nI t) (S (125 + 8 * t + 1))))) (ml E D S Ps A K T N (upd I 2 0) hh w) := by
  refine Cd.of RX4 rfl (by decide) [some (.ref D), some (.int (nI c)), some (.int (nI t))] (Nat.le_of_ble_eq_true rfl) rfl (fun Γ h f hmn => ?_)
  refine v_aload_n (i := 0) h 0 1 dX4_work_0 rfl rfl ld0 ?_
  refine v_iload_n (i := 1) h 1 2 dX4_work_1 rfl rfl ld1 ?_
  refine v_callV1 h 2 5 dX4_work_2 rfl cb_X4_isChair cv_X4_isChair ml_ob lk_X4_113 (rok (by decide) (by decide)) ⟨rfl, rfl⟩ ⟨Nat.zero_le _, Nat.zero_le _⟩ (k_isChairY y1 y2) rfl rfl (Nat.le_of_ble_eq_true rfl) ?_
  refine v_if_eq h 5 8 29 dX4_work_5 rfl (by decide) (fun h5 => absurd h5 (by decide)) (fun h5 => ?_)
  refine v_aload_n (i := 0) h 8 9 dX4_work_8 rfl rfl ld0 ?_
  refine v_iload_n (i := 2) h 9 10 dX4_work_9 rfl rfl ld2 ?_
  refine v_callV1 h 10 13 dX4_work_10 rfl cb_X4_isTeam cv_X4_isTeam ml_ob lk_X4_116 (rok (by decide) (by decide)) ⟨rfl, rfl⟩ ⟨Nat.zero_le _, Nat.zero_le _⟩ (k_isTeamY y3 y4) rfl rfl (Nat.le_of_ble_eq_true rfl) ?_
  refine v_if_eq h 13 16 29 dX4_work_13 rfl (by decide) (fun h13 => absurd h13 (by decide)) (fun h13 => ?_)
  refine v_aload_n (i := 0) h 16 17 dX4_work_16 rfl rfl ld0 ?_
  refine v_aload_n (i := 0) h 17 18 dX4_work_17 rfl rfl ld0 ?_
  refine v_iload_n (i := 1) h 18 19 dX4_work_18 rfl rfl ld1 ?_
  refine v_iload_n (i := 2) h 19 20 dX4_work_19 rfl rfl ld2 ?_
  refine v_callV1 h 20 23 dX4_work_20 rfl cb_X4_workOf cv_X4_workOf ml_ob lk_X4_66 (rok (by decide) (by decide)) ⟨rfl, rfl⟩ ⟨Nat.zero_le _, Nat.zero_le _⟩ (k_workM hnt hc ht e8 hr hk) rfl rfl (Nat.le_of_ble_eq_true rfl) ?_
  refine v_callV1 h 23 26 dX4_work_23 rfl cb_X4_tells cv_X4_tells ml_ob lk_X4_39 (rok (by decide) (by decide)) ⟨rfl, rfl⟩ ⟨Nat.zero_le _, Nat.zero_le _⟩ (k_tells _) rfl rfl (Nat.le_of_ble_eq_true rfl) ?_
  refine v_goto h 26 34 dX4_work_26 (by decide) ?_
  exact v_iret h 34 f dX4_work_34 rfl (Nat.zero_le _) (Nat.zero_le _) rfl rfl

set_option maxRecDepth 100000 in
set_option maxHeartbeats 4000000 in
theorem r_journal1 {E : EE} {D : Nat} {S : St} {Ps : Nat → St} {A K T N I : St} {hh : Int64} {w : Wo} {x : Int32} (z : x < 0) : Cd E mX4_journal (ml E D S Ps A K T N I hh w) [.ref D, .int x] (some (.int 0)) (ml E D S Ps A K T N (upd I 2 1) hh w) := by
  refine Cd.of RX4 rfl (by decide) [some (.ref D), some (.int x)] (Nat.le_of_ble_eq_true rfl) rfl (fun Γ h f hmn => ?_)
  refine v_iload_n (i := 1) h 0 1 dX4_journal_0 rfl rfl ld1 ?_
  refine v_if_ge h 1 4 12 dX4_journal_1 rfl (by decide) (fun h1 => absurd z (le_nlt h1)) (fun h1 => ?_)
  refine v_aload_n (i := 0) h 4 5 dX4_journal_4 rfl rfl ld0 ?_
  refine v_iconst (v := 1) h 5 6 dX4_journal_5 rfl (by decide) ?_
  refine v_callV1 h 6 9 dX4_journal_6 rfl cb_X4_fails cv_X4_fails ml_ob lk_X4_92 (rok (by decide) (by decide)) ⟨rfl, rfl⟩ ⟨Nat.zero_le _, Nat.zero_le _⟩ (k_fails _) rfl rfl (Nat.le_of_ble_eq_true rfl) ?_
  refine v_goto h 9 41 dX4_journal_9 (by decide) ?_
  exact v_iret h 41 f dX4_journal_41 rfl (Nat.zero_le _) (Nat.zero_le _) rfl rfl

set_option maxRecDepth 100000 in
set_option maxHeartbeats 4000000 in
theorem r_journalN {E : EE} {D : Nat} {S : St} {Ps : Nat → St} {A K T N I : St} {hh : Int64} {w : Wo} {x : Int32} (y1 : ¬ x < 0) (y2 : S 12 ≤ x) : Cd E mX4_journal (ml E D S Ps A K T N I hh w) [.ref D, .int x] (some (.int (-1))) (ml E D S Ps A K T N (upd I 2 0) hh w) := by
  refine Cd.of RX4 rfl (by decide) [some (.ref D), some (.int x)] (Nat.le_of_ble_eq_true rfl) rfl (fun Γ h f hmn => ?_)
  refine v_iload_n (i := 1) h 0 1 dX4_journal_0 rfl rfl ld1 ?_
  refine v_if_ge h 1 4 12 dX4_journal_1 rfl (by decide) (fun h1 => ?_) (fun h1 => absurd (nlt_le y1) h1)
  refine v_aload_n (i := 0) h 12 13 dX4_journal_12 rfl rfl ld0 ?_
  refine v_iload_n (i := 1) h 13 14 dX4_journal_13 rfl rfl ld1 ?_
  refine v_aload_n (i := 0) h 14 15 dX4_journal_14 rfl rfl ld0 ?_
  refine v_get h 15 18 dX4_journal_15 rfl fo_X4_7 ml_ob rfl ?_
  refine v_bipush (v := nI 12) h 18 20 dX4_journal_18 rfl (by decide) ?_
  refine v_ildSm h 20 21 _ dX4_journal_20 rfl (by omega) ?_
  refine v_icmp_ge h 21 24 37 dX4_journal_21 rfl (by decide) (fun h21 => ?_) (fun h21 => absurd y2 h21)
  refine v_iconst (v := (-1)) h 37 38 dX4_journal_37 rfl (by decide) ?_
  refine v_callV1 h 38 41 dX4_journal_38 rfl cb_X4_tells cv_X4_tells ml_ob lk_X4_39 (rok (by decide) (by decide)) ⟨rfl, rfl⟩ ⟨Nat.zero_le _, Nat.zero_le _⟩ (k_tells _) rfl rfl (Nat.le_of_ble_eq_true rfl) ?_
  exact v_iret h 41 f dX4_journal_41 rfl (Nat.zero_le _) (Nat.zero_le _) rfl rfl

set_option maxRecDepth 100000 in
set_option maxHeartbeats 4000000 in
theorem r_journalY {E : EE} {D : Nat} {S : St} {Ps : Nat → St} {A K T N I : St} {hh : Int64} {w : Wo} {j : Nat} (hj : j < 14) (y1 : ¬ nI j < 0) (y2 : ¬ S 12 ≤ nI j) : Cd E mX4_journal (ml E D S Ps A K T N I hh w) [.ref D, .int (nI j)] (some (.int (S (157 + j)))) (ml E D S Ps A K T N (upd I 2 0) hh w) := by
  refine Cd.of RX4 rfl (by decide) [some (.ref D), some (.int (nI j))] (Nat.le_of_ble_eq_true rfl) rfl (fun Γ h f hmn => ?_)
  refine v_iload_n (i := 1) h 0 1 dX4_journal_0 rfl rfl ld1 ?_
  refine v_if_ge h 1 4 12 dX4_journal_1 rfl (by decide) (fun h1 => ?_) (fun h1 => absurd (nlt_le y1) h1)
  refine v_aload_n (i := 0) h 12 13 dX4_journal_12 rfl rfl ld0 ?_
  refine v_iload_n (i := 1) h 13 14 dX4_journal_13 rfl rfl ld1 ?_
  refine v_aload_n (i := 0) h 14 15 dX4_journal_14 rfl rfl ld0 ?_
  refine v_get h 15 18 dX4_journal_15 rfl fo_X4_7 ml_ob rfl ?_
  refine v_bipush (v := nI 12) h 18 20 dX4_journal_18 rfl (by decide) ?_
  refine v_ildSm h 20 21 _ dX4_journal_20 rfl (by omega) ?_
  refine v_icmp_ge h 21 24 37 dX4_journal_21 rfl (by decide) (fun h21 => absurd h21 y2) (fun h21 => ?_)
  refine v_aload_n (i := 0) h 24 25 dX4_journal_24 rfl rfl ld0 ?_
  refine v_get h 25 28 dX4_journal_25 rfl fo_X4_7 ml_ob rfl ?_
  refine v_sipush (v := nI 157) h 28 31 dX4_journal_28 rfl (by decide) ?_
  refine v_iload_n (i := 1) h 31 32 dX4_journal_31 rfl rfl ld1 ?_
  refine v_iadd h 32 33 dX4_journal_32 rfl ?_
  rw [nI_add]
  refine v_ildSm h 33 34 _ dX4_journal_33 rfl (by omega) ?_
  refine v_goto h 34 38 dX4_journal_34 (by decide) ?_
  refine v_callV1 h 38 41 dX4_journal_38 rfl cb_X4_tells cv_X4_tells ml_ob lk_X4_39 (rok (by decide) (by decide)) ⟨rfl, rfl⟩ ⟨Nat.zero_le _, Nat.zero_le _⟩ (k_tells _) rfl rfl (Nat.le_of_ble_eq_true rfl) ?_
  exact v_iret h 41 f dX4_journal_41 rfl (Nat.zero_le _) (Nat.zero_le _) rfl rfl

set_option maxRecDepth 100000 in
set_option maxHeartbeats 4000000 in
theorem r_chosen1 {E : EE} {D : Nat} {S : St} {Ps : Nat → St} {A K T N I : St} {hh : Int64} {w : Wo} {x : Int32} (z : x < 0 ∨ S 0 ≤ x) : Cd E mX4_chosen (ml E D S Ps A K T N I hh w) [.ref D, .int x] (some (.int 0)) (ml E D S Ps A K T N (upd I 2 1) hh w) := by
  refine Cd.of RX4 rfl (by decide) [some (.ref D), some (.int x)] (Nat.le_of_ble_eq_true rfl) rfl (fun Γ h f hmn => ?_)
  refine v_aload_n (i := 0) h 0 1 dX4_chosen_0 rfl rfl ld0 ?_
  refine v_iload_n (i := 1) h 1 2 dX4_chosen_1 rfl rfl ld1 ?_
  refine v_callV1 h 2 5 dX4_chosen_2 rfl cb_X4_isSpan cv_X4_isSpan ml_ob lk_X4_88 (rok (by decide) (by decide)) ⟨rfl, rfl⟩ ⟨Nat.zero_le _, Nat.zero_le _⟩ (k_isSpanN z) rfl rfl (Nat.le_of_ble_eq_true rfl) ?_
  refine v_if_eq h 5 8 20 dX4_chosen_5 rfl (by decide) (fun h5 => ?_) (fun h5 => absurd (by decide) h5)
  refine v_aload_n (i := 0) h 20 21 dX4_chosen_20 rfl rfl ld0 ?_
  refine v_iconst (v := 1) h 21 22 dX4_chosen_21 rfl (by decide) ?_
  refine v_callV1 h 22 25 dX4_chosen_22 rfl cb_X4_fails cv_X4_fails ml_ob lk_X4_92 (rok (by decide) (by decide)) ⟨rfl, rfl⟩ ⟨Nat.zero_le _, Nat.zero_le _⟩ (k_fails _) rfl rfl (Nat.le_of_ble_eq_true rfl) ?_
  exact v_iret h 25 f dX4_chosen_25 rfl (Nat.zero_le _) (Nat.zero_le _) rfl rfl

set_option maxRecDepth 100000 in
set_option maxHeartbeats 4000000 in
theorem r_chosen {E : EE} {D : Nat} {S : St} {Ps : Nat → St} {A K T N I : St} {hh : Int64} {w : Wo} {sp nc nt ne m : Nat} {x : Int32} (hI : Inv S sp nc nt ne m) (hx : InS x) (y1 : ¬ x < 0) (y2 : ¬ S 0 ≤ x) : Cd E mX4_chosen (ml E D S Ps A K T N I hh w) [.ref D, .int x] (some (.int ((chs S x nc).1))) (ml E D S Ps A K T N (upd I 2 0) hh w) := by
  refine Cd.of RX4 rfl (by decide) [some (.ref D), some (.int x)] (Nat.le_of_ble_eq_true rfl) rfl (fun Γ h f hmn => ?_)
  refine v_aload_n (i := 0) h 0 1 dX4_chosen_0 rfl rfl ld0 ?_
  refine v_iload_n (i := 1) h 1 2 dX4_chosen_1 rfl rfl ld1 ?_
  refine v_callV1 h 2 5 dX4_chosen_2 rfl cb_X4_isSpan cv_X4_isSpan ml_ob lk_X4_88 (rok (by decide) (by decide)) ⟨rfl, rfl⟩ ⟨Nat.zero_le _, Nat.zero_le _⟩ (k_isSpanY y1 y2) rfl rfl (Nat.le_of_ble_eq_true rfl) ?_
  refine v_if_eq h 5 8 20 dX4_chosen_5 rfl (by decide) (fun h5 => absurd h5 (by decide)) (fun h5 => ?_)
  refine v_aload_n (i := 0) h 8 9 dX4_chosen_8 rfl rfl ld0 ?_
  refine v_aload_n (i := 0) h 9 10 dX4_chosen_9 rfl rfl ld0 ?_
  refine v_iload_n (i := 1) h 10 11 dX4_chosen_10 rfl rfl ld1 ?_
  refine v_callV1 h 11 14 dX4_chosen_11 rfl cb_X4_choiceAt cv_X4_choiceAt ml_ob lk_X4_73 (rok (by decide) (by decide)) ⟨rfl, rfl⟩ ⟨Nat.zero_le _, Nat.zero_le _⟩ (k_choiceM hI hx) rfl rfl (Nat.le_of_ble_eq_true rfl) ?_
  refine v_callV1 h 14 17 dX4_chosen_14 rfl cb_X4_tells cv_X4_tells ml_ob lk_X4_39 (rok (by decide) (by decide)) ⟨rfl, rfl⟩ ⟨Nat.zero_le _, Nat.zero_le _⟩ (k_tells _) rfl rfl (Nat.le_of_ble_eq_true rfl) ?_
  refine v_goto h 17 25 dX4_chosen_17 (by decide) ?_
  exact v_iret h 25 f dX4_chosen_25 rfl (Nat.zero_le _) (Nat.zero_le _) rfl rfl

set_option maxRecDepth 100000 in
set_option maxHeartbeats 4000000 in
theorem r_minuteOf1 {E : EE} {D : Nat} {S : St} {Ps : Nat → St} {A K T N I : St} {hh : Int64} {w : Wo} {i : Int32} (z : i < 0 ∨ S 7 ≤ i) : Cd E mX4_minuteOf (ml E D S Ps A K T N I hh w) [.ref D, .int i] (some (.int 0)) (ml E D S Ps A K T N (upd I 2 1) hh w) := by
  refine Cd.of RX4 rfl (by decide) [some (.ref D), some (.int i)] (Nat.le_of_ble_eq_true rfl) rfl (fun Γ h f hmn => ?_)
  refine v_aload_n (i := 0) h 0 1 dX4_minuteOf_0 rfl rfl ld0 ?_
  refine v_iload_n (i := 1) h 1 2 dX4_minuteOf_1 rfl rfl ld1 ?_
  refine v_callV1 h 2 5 dX4_minuteOf_2 rfl cb_X4_isChair cv_X4_isChair ml_ob lk_X4_113 (rok (by decide) (by decide)) ⟨rfl, rfl⟩ ⟨Nat.zero_le _, Nat.zero_le _⟩ (k_isChairN z) rfl rfl (Nat.le_of_ble_eq_true rfl) ?_
  refine v_if_ne h 5 8 14 dX4_minuteOf_5 rfl (by decide) (fun h5 => absurd rfl h5) (fun h5 => ?_)
  refine v_aload_n (i := 0) h 8 9 dX4_minuteOf_8 rfl rfl ld0 ?_
  refine v_iconst (v := 1) h 9 10 dX4_minuteOf_9 rfl (by decide) ?_
  refine v_callV1 h 10 13 dX4_minuteOf_10 rfl cb_X4_fails cv_X4_fails ml_ob lk_X4_92 (rok (by decide) (by decide)) ⟨rfl, rfl⟩ ⟨Nat.zero_le _, Nat.zero_le _⟩ (k_fails _) rfl rfl (Nat.le_of_ble_eq_true rfl) ?_
  exact v_iret h 13 f dX4_minuteOf_13 rfl (Nat.zero_le _) (Nat.zero_le _) rfl rfl

set_option maxRecDepth 100000 in
set_option maxHeartbeats 4000000 in
theorem r_minuteOf {E : EE} {D : Nat} {S : St} {Ps : Nat → St} {A K T N I : St} {hh : Int64} {w : Wo} {sp nc nt ne m : Nat} {c : Nat} (hI : Inv S sp nc nt ne m) (hm : m < 2 ^ 30 - 5000) (hc : c < nc) (y1 : ¬ nI c < 0) (y2 : ¬ S 7 ≤ nI c) : Cd E mX4_minuteOf (ml E D S Ps A K T N I hh w) [.ref D, .int (nI c)] (some (.int ((runS nc nt 1000 S m).1 (13 + 8 * c + 6)))) (ml E D S Ps A S T (cpA N (fun c => (runS nc nt 1000 S m).1 (13 + 8 * c + 6)) nc) (upd (upd I 3 (outI (runS nc nt 1000 S m))) 2 0) hh w) := by
  refine Cd.of RX4 rfl (by decide) [some (.ref D), some (.int (nI c))] (Nat.le_of_ble_eq_true rfl) rfl (fun Γ h f hmn => ?_)
  have hnc := hI.n14
  refine v_aload_n (i := 0) h 0 1 dX4_minuteOf_0 rfl rfl ld0 ?_
  refine v_iload_n (i := 1) h 1 2 dX4_minuteOf_1 rfl rfl ld1 ?_
  refine v_callV1 h 2 5 dX4_minuteOf_2 rfl cb_X4_isChair cv_X4_isChair ml_ob lk_X4_113 (rok (by decide) (by decide)) ⟨rfl, rfl⟩ ⟨Nat.zero_le _, Nat.zero_le _⟩ (k_isChairY y1 y2) rfl rfl (Nat.le_of_ble_eq_true rfl) ?_
  refine v_if_ne h 5 8 14 dX4_minuteOf_5 rfl (by decide) (fun h5 => ?_) (fun h5 => absurd h5 (by decide))
  refine v_aload_n (i := 0) h 14 15 dX4_minuteOf_14 rfl rfl ld0 ?_
  refine v_callV0 h 15 18 dX4_minuteOf_15 rfl cb_X4_foresees cv_X4_foresees ml_ob lk_X4_119 (rok (by decide) (by decide)) ⟨rfl, rfl⟩ ⟨Nat.zero_le _, Nat.zero_le _⟩ (k_foresees hI hm) rfl rfl (Nat.le_of_ble_eq_true rfl) ?_
  refine v_aload_n (i := 0) h 18 19 dX4_minuteOf_18 rfl rfl ld0 ?_
  refine v_aload_n (i := 0) h 19 20 dX4_minuteOf_19 rfl rfl ld0 ?_
  refine v_get h 20 23 dX4_minuteOf_20 rfl fo_X4_25 ml_ob rfl ?_
  refine v_iload_n (i := 1) h 23 24 dX4_minuteOf_23 rfl rfl ld1 ?_
  refine v_ildNm h 24 25 _ dX4_minuteOf_24 rfl (by omega) ?_
  rw [show cpA N (fun c => (runS nc nt 1000 S m).1 (13 + 8 * c + 6)) nc c = (runS nc nt 1000 S m).1 (13 + 8 * c + 6) from if_pos hc]
  refine v_callV1 h 25 28 dX4_minuteOf_25 rfl cb_X4_tells cv_X4_tells ml_ob lk_X4_39 (rok (by decide) (by decide)) ⟨rfl, rfl⟩ ⟨Nat.zero_le _, Nat.zero_le _⟩ (k_tells _) rfl rfl (Nat.le_of_ble_eq_true rfl) ?_
  exact v_iret h 28 f dX4_minuteOf_28 rfl (Nat.zero_le _) (Nat.zero_le _) rfl rfl

set_option maxRecDepth 100000 in
set_option maxHeartbeats 4000000 in
theorem r_minutesToAll {E : EE} {D : Nat} {S : St} {Ps : Nat → St} {A K T N I : St} {hh : Int64} {w : Wo} {sp nc nt ne m : Nat} (hI : Inv S sp nc nt ne m) (hm : m < 2 ^ 30 - 5000) : Cd E mX4_minutesToAll (ml E D S Ps A K T N I hh w) [.ref D] (some (.int (outI (runS nc nt 1000 S m)))) (ml E D S Ps A S T (cpA N (fun c => (runS nc nt 1000 S m).1 (13 + 8 * c + 6)) nc) (upd (upd I 3 (outI (runS nc nt 1000 S m))) 2 0) hh w) := by
  refine Cd.of RX4 rfl (by decide) [some (.ref D)] (Nat.le_of_ble_eq_true rfl) rfl (fun Γ h f hmn => ?_)
  refine v_aload_n (i := 0) h 0 1 dX4_minutesToAll_0 rfl rfl ld0 ?_
  refine v_callV0 h 1 4 dX4_minutesToAll_1 rfl cb_X4_foresees cv_X4_foresees ml_ob lk_X4_119 (rok (by decide) (by decide)) ⟨rfl, rfl⟩ ⟨Nat.zero_le _, Nat.zero_le _⟩ (k_foresees hI hm) rfl rfl (Nat.le_of_ble_eq_true rfl) ?_
  refine v_aload_n (i := 0) h 4 5 dX4_minutesToAll_4 rfl rfl ld0 ?_
  refine v_aload_n (i := 0) h 5 6 dX4_minutesToAll_5 rfl rfl ld0 ?_
  refine v_get h 6 9 dX4_minutesToAll_6 rfl fo_X4_82 ml_ob rfl ?_
  rw [upd_self]
  refine v_callV1 h 9 12 dX4_minutesToAll_9 rfl cb_X4_tells cv_X4_tells ml_ob lk_X4_39 (rok (by decide) (by decide)) ⟨rfl, rfl⟩ ⟨Nat.zero_le _, Nat.zero_le _⟩ (k_tells _) rfl rfl (Nat.le_of_ble_eq_true rfl) ?_
  exact v_iret h 12 f dX4_minutesToAll_12 rfl (Nat.zero_le _) (Nat.zero_le _) rfl rfl

set_option maxRecDepth 100000 in
set_option maxHeartbeats 4000000 in
theorem r_append1 {E : EE} {D : Nat} {S : St} {Ps : Nat → St} {A K T N I : St} {hh : Int64} {w : Wo} {v : Int32} (z : v < 0 ∨ 127 < v) : Cd E mX4_append (ml E D S Ps A K T N I hh w) [.ref D, .int v] (some (.int 0)) (ml E D S Ps A K T N (upd I 2 1) hh w) := by
  refine Cd.of RX4 rfl (by decide) [some (.ref D), some (.int v)] (Nat.le_of_ble_eq_true rfl) rfl (fun Γ h f hmn => ?_)
  refine v_iload_n (i := 1) h 0 1 dX4_append_0 rfl rfl ld1 ?_
  refine v_iconst (v := 0) h 1 2 dX4_append_1 rfl (by decide) ?_
  refine v_bipush (v := 127) h 2 4 dX4_append_2 rfl (by decide) ?_
  refine v_callS1 h 4 7 dX4_append_4 rfl cb_X4_in cs_X4_in lk_X4_95 (rok (by decide) (by decide)) ⟨rfl, rfl⟩ ⟨Nat.zero_le _, Nat.zero_le _⟩ (k_inN z) rfl rfl (Nat.le_of_ble_eq_true rfl) ?_
  refine v_if_ne h 7 10 16 dX4_append_7 rfl (by decide) (fun h7 => absurd rfl h7) (fun h7 => ?_)
  refine v_aload_n (i := 0) h 10 11 dX4_append_10 rfl rfl ld0 ?_
  refine v_iconst (v := 1) h 11 12 dX4_append_11 rfl (by decide) ?_
  refine v_callV1 h 12 15 dX4_append_12 rfl cb_X4_fails cv_X4_fails ml_ob lk_X4_92 (rok (by decide) (by decide)) ⟨rfl, rfl⟩ ⟨Nat.zero_le _, Nat.zero_le _⟩ (k_fails _) rfl rfl (Nat.le_of_ble_eq_true rfl) ?_
  exact v_iret h 15 f dX4_append_15 rfl (Nat.zero_le _) (Nat.zero_le _) rfl rfl

set_option maxRecDepth 100000 in
set_option maxHeartbeats 4000000 in
theorem r_append2 {E : EE} {D : Nat} {S : St} {Ps : Nat → St} {A K T N I : St} {hh : Int64} {w : Wo} {v : Int32} (y1 : ¬ v < 0) (y2 : ¬ 127 < v) (z : I 1 = 100) : Cd E mX4_append (ml E D S Ps A K T N I hh w) [.ref D, .int v] (some (.int 0)) (ml E D S Ps A K T N (upd I 2 2) hh w) := by
  refine Cd.of RX4 rfl (by decide) [some (.ref D), some (.int v)] (Nat.le_of_ble_eq_true rfl) rfl (fun Γ h f hmn => ?_)
  refine v_iload_n (i := 1) h 0 1 dX4_append_0 rfl rfl ld1 ?_
  refine v_iconst (v := 0) h 1 2 dX4_append_1 rfl (by decide) ?_
  refine v_bipush (v := 127) h 2 4 dX4_append_2 rfl (by decide) ?_
  refine v_callS1 h 4 7 dX4_append_4 rfl cb_X4_in cs_X4_in lk_X4_95 (rok (by decide) (by decide)) ⟨rfl, rfl⟩ ⟨Nat.zero_le _, Nat.zero_le _⟩ (k_inY y1 y2) rfl rfl (Nat.le_of_ble_eq_true rfl) ?_
  refine v_if_ne h 7 10 16 dX4_append_7 rfl (by decide) (fun h7 => ?_) (fun h7 => absurd h7 (by decide))
  refine v_aload_n (i := 0) h 16 17 dX4_append_16 rfl rfl ld0 ?_
  refine v_get h 17 20 dX4_append_17 rfl fo_X4_136 ml_ob rfl ?_
  refine v_bipush (v := 100) h 20 22 dX4_append_20 rfl (by decide) ?_
  refine v_icmp_ne h 22 25 31 dX4_append_22 rfl (by decide) (fun h22 => absurd z h22) (fun h22 => ?_)
  refine v_aload_n (i := 0) h 25 26 dX4_append_25 rfl rfl ld0 ?_
  refine v_iconst (v := 2) h 26 27 dX4_append_26 rfl (by decide) ?_
  refine v_callV1 h 27 30 dX4_append_27 rfl cb_X4_fails cv_X4_fails ml_ob lk_X4_92 (rok (by decide) (by decide)) ⟨rfl, rfl⟩ ⟨Nat.zero_le _, Nat.zero_le _⟩ (k_fails _) rfl rfl (Nat.le_of_ble_eq_true rfl) ?_
  exact v_iret h 30 f dX4_append_30 rfl (Nat.zero_le _) (Nat.zero_le _) rfl rfl

set_option maxRecDepth 100000 in
set_option maxHeartbeats 4000000 in
theorem r_append {E : EE} {D : Nat} {S : St} {Ps : Nat → St} {A K T N I : St} {hh : Int64} {w : Wo} {v : Int32} {n : Nat} (y1 : ¬ v < 0) (y2 : ¬ 127 < v) (e1 : I 1 = nI n) (hn : n < 100) : Cd E mX4_append (ml E D S Ps A K T N I hh w) [.ref D, .int v] (some (.int (nI (n + 1)))) (ml E D S Ps A K (upd T n v) N (upd (upd I 1 (nI (n + 1))) 2 0) hh w) := by
  refine Cd.of RX4 rfl (by decide) [some (.ref D), some (.int v)] (Nat.le_of_ble_eq_true rfl) rfl (fun Γ h f hmn => ?_)
  refine v_iload_n (i := 1) h 0 1 dX4_append_0 rfl rfl ld1 ?_
  refine v_iconst (v := 0) h 1 2 dX4_append_1 rfl (by decide) ?_
  refine v_bipush (v := 127) h 2 4 dX4_append_2 rfl (by decide) ?_
  refine v_callS1 h 4 7 dX4_append_4 rfl cb_X4_in cs_X4_in lk_X4_95 (rok (by decide) (by decide)) ⟨rfl, rfl⟩ ⟨Nat.zero_le _, Nat.zero_le _⟩ (k_inY y1 y2) rfl rfl (Nat.le_of_ble_eq_true rfl) ?_
  refine v_if_ne h 7 10 16 dX4_append_7 rfl (by decide) (fun h7 => ?_) (fun h7 => absurd h7 (by decide))
  refine v_aload_n (i := 0) h 16 17 dX4_append_16 rfl rfl ld0 ?_
  refine v_get h 17 20 dX4_append_17 rfl fo_X4_136 ml_ob rfl ?_
  refine v_bipush (v := 100) h 20 22 dX4_append_20 rfl (by decide) ?_
  refine v_icmp_ne h 22 25 31 dX4_append_22 rfl (by decide) (fun h22 => ?_) (fun h22 => absurd (nI_inj (b := 100) (by omega) (by decide) (e1.symm.trans h22)) (by omega))
  refine v_aload_n (i := 0) h 31 32 dX4_append_31 rfl rfl ld0 ?_
  refine v_get h 32 35 dX4_append_32 rfl fo_X4_22 ml_ob rfl ?_
  refine v_aload_n (i := 0) h 35 36 dX4_append_35 rfl rfl ld0 ?_
  refine v_get h 36 39 dX4_append_36 rfl fo_X4_136 ml_ob rfl ?_
  rw [e1]
  refine v_iload_n (i := 1) h 39 40 dX4_append_39 rfl rfl ld1 ?_
  refine v_istXm h 40 41 _ dX4_append_40 rfl (by omega) ?_
  refine v_aload_n (i := 0) h 41 42 dX4_append_41 rfl rfl ld0 ?_
  refine v_dup h 42 43 dX4_append_42 rfl rfl ?_
  refine v_get h 43 46 dX4_append_43 rfl fo_X4_136 ml_ob rfl ?_
  rw [e1]
  refine v_iconst (v := 1) h 46 47 dX4_append_46 rfl (by decide) ?_
  refine v_iadd h 47 48 dX4_append_47 rfl ?_
  rw [nI_1]
  refine v_putM6 h 48 51 dX4_append_48 rfl fw_X4_136 ?_
  refine v_aload_n (i := 0) h 51 52 dX4_append_51 rfl rfl ld0 ?_
  refine v_aload_n (i := 0) h 52 53 dX4_append_52 rfl rfl ld0 ?_
  refine v_get h 53 56 dX4_append_53 rfl fo_X4_136 ml_ob rfl ?_
  rw [upd_self]
  refine v_callV1 h 56 59 dX4_append_56 rfl cb_X4_tells cv_X4_tells ml_ob lk_X4_39 (rok (by decide) (by decide)) ⟨rfl, rfl⟩ ⟨Nat.zero_le _, Nat.zero_le _⟩ (k_tells _) rfl rfl (Nat.le_of_ble_eq_true rfl) ?_
  exact v_iret h 59 f dX4_append_59 rfl (Nat.zero_le _) (Nat.zero_le _) rfl rfl

set_option maxRecDepth 100000 in
set_option maxHeartbeats 4000000 in
theorem r_clearText {E : EE} {D : Nat} {S : St} {Ps : Nat → St} {A K T N I : St} {hh : Int64} {w : Wo} : Cd E mX4_clearText (ml E D S Ps A K T N I hh w) [.ref D] (some (.int (I 1))) (ml E D S Ps A K T N (upd (upd I 1 0) 2 0) hh w) := by
  refine Cd.of RX4 rfl (by decide) [some (.ref D), none] (Nat.le_of_ble_eq_true rfl) rfl (fun Γ h f hmn => ?_)
  refine v_aload_n (i := 0) h 0 1 dX4_clearText_0 rfl rfl ld0 ?_
  refine v_get h 1 4 dX4_clearText_1 rfl fo_X4_136 ml_ob rfl ?_
  refine v_istore_n (i := 1) h 4 5 dX4_clearText_4 rfl rfl (by decide) (so1 rfl) ?_
  refine v_aload_n (i := 0) h 5 6 dX4_clearText_5 rfl rfl ld0 ?_
  refine v_iconst (v := 0) h 6 7 dX4_clearText_6 rfl (by decide) ?_
  refine v_putM6 h 7 10 dX4_clearText_7 rfl fw_X4_136 ?_
  refine v_aload_n (i := 0) h 10 11 dX4_clearText_10 rfl rfl ld0 ?_
  refine v_iload_n (i := 1) h 11 12 dX4_clearText_11 rfl rfl ld1 ?_
  refine v_callV1 h 12 15 dX4_clearText_12 rfl cb_X4_tells cv_X4_tells ml_ob lk_X4_39 (rok (by decide) (by decide)) ⟨rfl, rfl⟩ ⟨Nat.zero_le _, Nat.zero_le _⟩ (k_tells _) rfl rfl (Nat.le_of_ble_eq_true rfl) ?_
  exact v_iret h 15 f dX4_clearText_15 rfl (Nat.zero_le _) (Nat.zero_le _) rfl rfl

set_option maxRecDepth 100000 in
set_option maxHeartbeats 4000000 in
theorem r_meanCold {E : EE} {D : Nat} {S : St} {Ps : Nat → St} {A K T N I : St} {hh : Int64} {w : Wo} {sp nc nt ne m : Nat} (hI : Inv S sp nc nt ne m) (hd : ¬ mcN S nc = 0 → vf_n64 (FP.ddiv (FP.i2d (mcS S nc)) (FP.i2d (mcN S nc)))) : Cd E mX4_meanCold (ml E D S Ps A K T N I hh w) [.ref D] (some (.double (mcR S nc))) (ml E D S Ps A K T N (upd I 2 0) hh w) := by
  refine Cd.of RX4 rfl (by decide) [some (.ref D), none, none, none] (Nat.le_of_ble_eq_true rfl) rfl (fun Γ h f hmn => ?_)
  have hn14 := hI.n14
  refine v_aload_n (i := 0) h 0 1 dX4_meanCold_0 rfl rfl ld0 ?_
  refine v_iconst (v := 0) h 1 2 dX4_meanCold_1 rfl (by decide) ?_
  refine v_putM7 h 2 5 dX4_meanCold_2 rfl fw_X4_28 ?_
  refine v_iconst (v := 0) h 5 6 dX4_meanCold_5 rfl (by decide) ?_
  refine v_istore_n (i := 1) h 6 7 dX4_meanCold_6 rfl rfl (by decide) (so1 rfl) ?_
  refine v_iconst (v := 0) h 7 8 dX4_meanCold_7 rfl (by decide) ?_
  refine v_istore_n (i := 2) h 8 9 dX4_meanCold_8 rfl rfl (by decide) (so2 rfl) ?_
  refine v_iconst (v := 0) h 9 10 dX4_meanCold_9 rfl (by decide) ?_
  refine v_istore_n (i := 3) h 10 11 dX4_meanCold_10 rfl rfl (by decide) (so3 rfl) ?_
  have loop11 : ∀ d j, j + d = nc → V E Γ 0 0 11 [some (.ref D), some (.int (mcN S j)), some (.int (mcS S j)), some (.int (nI j))] [] (ml E D S Ps A K T N (upd I 2 0) hh w) := by
    intro d
    induction d with
    | zero =>
      intro j hj
      obtain rfl : nc = j := by omega
      refine v_iload_n (i := 3) h 11 12 dX4_meanCold_11 rfl rfl ld3 ?_
      refine v_aload_n (i := 0) h 12 13 dX4_meanCold_12 rfl rfl ld0 ?_
      refine v_get h 13 16 dX4_meanCold_13 rfl fo_X4_7 ml_ob rfl ?_
      refine v_bipush (v := nI 7) h 16 18 dX4_meanCold_16 rfl (by decide) ?_
      refine v_ildSm h 18 19 _ dX4_meanCold_18 rfl (by omega) ?_
      refine v_icmp_ge h 19 22 69 dX4_meanCold_19 rfl (by decide) (fun h19 => ?_) (fun h19 => absurd (by rw [hI.c7]; exact nI_le (Nat.le_refl _) (by omega)) h19)
      refine v_iload_n (i := 1) h 69 70 dX4_meanCold_69 rfl rfl ld1 ?_
      refine v_if_ne h 70 73 77 dX4_meanCold_70 rfl (by decide) (fun h70 => ?_) (fun h70 => ?_)
      · refine v_iload_n (i := 2) h 77 78 dX4_meanCold_77 rfl rfl ld2 ?_
        refine v_i2d h 78 79 dX4_meanCold_78 rfl ?_
        refine v_iload_n (i := 1) h 79 80 dX4_meanCold_79 rfl rfl ld1 ?_
        refine v_i2d h 80 81 dX4_meanCold_80 rfl ?_
        refine v_ddiv h 81 82 dX4_meanCold_81 rfl (hd h70) ?_
        refine v_dret h 82 f dX4_meanCold_82 rfl (Nat.zero_le _) (Nat.zero_le _) ?_ ?_
        · rw [mcR, if_neg h70]
        · rfl
      · refine v_dconst0 h 73 74 dX4_meanCold_73 rfl ?_
        refine v_goto h 74 82 dX4_meanCold_74 (by decide) ?_
        refine v_dret h 82 f dX4_meanCold_82 rfl (Nat.zero_le _) (Nat.zero_le _) ?_ ?_
        · rw [mcR, if_pos h70]
        · rfl
    | succ d ih =>
      intro j hj
      refine v_iload_n (i := 3) h 11 12 dX4_meanCold_11 rfl rfl ld3 ?_
      refine v_aload_n (i := 0) h 12 13 dX4_meanCold_12 rfl rfl ld0 ?_
      refine v_get h 13 16 dX4_meanCold_13 rfl fo_X4_7 ml_ob rfl ?_
      refine v_bipush (v := nI 7) h 16 18 dX4_meanCold_16 rfl (by decide) ?_
      refine v_ildSm h 18 19 _ dX4_meanCold_18 rfl (by omega) ?_
      refine v_icmp_ge h 19 22 69 dX4_meanCold_19 rfl (by decide) (fun h19 => absurd h19 (by rw [hI.c7]; exact nI_ge (by omega) (by omega))) (fun h19 => ?_)
      refine v_iload_n (i := 1) h 22 23 dX4_meanCold_22 rfl rfl ld1 ?_
      refine v_aload_n (i := 0) h 23 24 dX4_meanCold_23 rfl rfl ld0 ?_
      refine v_iload_n (i := 3) h 24 25 dX4_meanCold_24 rfl rfl ld3 ?_
      refine v_iconst (v := 4) h 25 26 dX4_meanCold_25 rfl (by decide) ?_
      refine v_callV1 h 26 29 dX4_meanCold_26 rfl cb_X4_of cv_X4_of ml_ob lk_X4_43 (rok (by decide) (by decide)) ⟨rfl, rfl⟩ ⟨Nat.zero_le _, Nat.zero_le _⟩ (k_of (c := j) (k := 4) (by omega) (by decide)) rfl rfl (Nat.le_of_ble_eq_true rfl) ?_
      refine v_iconst (v := 2) h 29 30 dX4_meanCold_29 rfl (by decide) ?_
      refine v_icmp_ge h 30 33 37 dX4_meanCold_30 rfl (by decide) (fun h30 => ?_) (fun h30 => ?_)
      · refine v_iconst (v := 0) h 37 38 dX4_meanCold_37 rfl (by decide) ?_
        refine v_iadd h 38 39 dX4_meanCold_38 rfl ?_
        refine v_istore_n (i := 1) h 39 40 dX4_meanCold_39 rfl rfl (by decide) (so1 rfl) ?_
        refine v_iload_n (i := 2) h 40 41 dX4_meanCold_40 rfl rfl ld2 ?_
        refine v_aload_n (i := 0) h 41 42 dX4_meanCold_41 rfl rfl ld0 ?_
        refine v_iload_n (i := 3) h 42 43 dX4_meanCold_42 rfl rfl ld3 ?_
        refine v_iconst (v := 4) h 43 44 dX4_meanCold_43 rfl (by decide) ?_
        refine v_callV1 h 44 47 dX4_meanCold_44 rfl cb_X4_of cv_X4_of ml_ob lk_X4_43 (rok (by decide) (by decide)) ⟨rfl, rfl⟩ ⟨Nat.zero_le _, Nat.zero_le _⟩ (k_of (c := j) (k := 4) (by omega) (by decide)) rfl rfl (Nat.le_of_ble_eq_true rfl) ?_
        refine v_iconst (v := 2) h 47 48 dX4_meanCold_47 rfl (by decide) ?_
        refine v_icmp_ge h 48 51 60 dX4_meanCold_48 rfl (by decide) (fun h48 => ?_) (fun h48 => absurd h30 h48)
        refine v_iconst (v := 0) h 60 61 dX4_meanCold_60 rfl (by decide) ?_
        refine v_iadd h 61 62 dX4_meanCold_61 rfl ?_
        refine v_istore_n (i := 2) h 62 63 dX4_meanCold_62 rfl rfl (by decide) (so2 rfl) ?_
        refine v_iinc (i := 3) h 63 66 dX4_meanCold_63 rfl ld3 (by first | exact iinc1 _ | rfl) (by decide) (so3 rfl) ?_
        refine v_goto h 66 11 dX4_meanCold_66 (by decide) ?_
        have q := ih (j + 1) (by omega)
        have e4 : S (13 + 8 * j + 4) = 2 := (ge2 hI (by omega)).mp h30
        rw [mcS_s, if_pos e4, mcN_s, if_pos e4] at q
        exact V.weakT q (And.intro rfl (And.intro (by first | rfl | rw [Int32.add_zero]) (And.intro (by first | rfl | rw [Int32.add_zero]) (And.intro rfl trivial))))
      · refine v_iconst (v := 1) h 33 34 dX4_meanCold_33 rfl (by decide) ?_
        refine v_goto h 34 38 dX4_meanCold_34 (by decide) ?_
        refine v_iadd h 38 39 dX4_meanCold_38 rfl ?_
        refine v_istore_n (i := 1) h 39 40 dX4_meanCold_39 rfl rfl (by decide) (so1 rfl) ?_
        refine v_iload_n (i := 2) h 40 41 dX4_meanCold_40 rfl rfl ld2 ?_
        refine v_aload_n (i := 0) h 41 42 dX4_meanCold_41 rfl rfl ld0 ?_
        refine v_iload_n (i := 3) h 42 43 dX4_meanCold_42 rfl rfl ld3 ?_
        refine v_iconst (v := 4) h 43 44 dX4_meanCold_43 rfl (by decide) ?_
        refine v_callV1 h 44 47 dX4_meanCold_44 rfl cb_X4_of cv_X4_of ml_ob lk_X4_43 (rok (by decide) (by decide)) ⟨rfl, rfl⟩ ⟨Nat.zero_le _, Nat.zero_le _⟩ (k_of (c := j) (k := 4) (by omega) (by decide)) rfl rfl (Nat.le_of_ble_eq_true rfl) ?_
        refine v_iconst (v := 2) h 47 48 dX4_meanCold_47 rfl (by decide) ?_
        refine v_icmp_ge h 48 51 60 dX4_meanCold_48 rfl (by decide) (fun h48 => absurd h48 h30) (fun h48 => ?_)
        refine v_aload_n (i := 0) h 51 52 dX4_meanCold_51 rfl rfl ld0 ?_
        refine v_iload_n (i := 3) h 52 53 dX4_meanCold_52 rfl rfl ld3 ?_
        refine v_iconst (v := 2) h 53 54 dX4_meanCold_53 rfl (by decide) ?_
        refine v_callV1 h 54 57 dX4_meanCold_54 rfl cb_X4_of cv_X4_of ml_ob lk_X4_43 (rok (by decide) (by decide)) ⟨rfl, rfl⟩ ⟨Nat.zero_le _, Nat.zero_le _⟩ (k_of (c := j) (k := 2) (by omega) (by decide)) rfl rfl (Nat.le_of_ble_eq_true rfl) ?_
        refine v_goto h 57 61 dX4_meanCold_57 (by decide) ?_
        refine v_iadd h 61 62 dX4_meanCold_61 rfl ?_
        refine v_istore_n (i := 2) h 62 63 dX4_meanCold_62 rfl rfl (by decide) (so2 rfl) ?_
        refine v_iinc (i := 3) h 63 66 dX4_meanCold_63 rfl ld3 (by first | exact iinc1 _ | rfl) (by decide) (so3 rfl) ?_
        refine v_goto h 66 11 dX4_meanCold_66 (by decide) ?_
        have q := ih (j + 1) (by omega)
        have e4 : ¬ S (13 + 8 * j + 4) = 2 := fun z => h30 (by rw [z]; decide)
        rw [mcS_s, if_neg e4, mcN_s, if_neg e4] at q
        exact V.weakT q (And.intro rfl (And.intro (by first | rfl | rw [Int32.add_zero]) (And.intro (by first | rfl | rw [Int32.add_zero]) (And.intro rfl trivial))))
  exact V.weakT (loop11 nc 0 (by omega)) (And.intro rfl (And.intro rfl (And.intro rfl (And.intro rfl trivial))))

theorem ml_sE {E : EE} {D : Nat} {S S' : St} {Ps : Nat → St} {A K T N I : St} {hh : Int64} {w : Wo} (h : ∀ j, j < 171 → S j = S' j) : ml E D S Ps A K T N I hh w = ml E D S' Ps A K T N I hh w := by
  have e : gd 171 S = gd 171 S' := gd_eq h
  refine Prod.ext rfl (funext fun a => ?_)
  show (if D ≤ a ∧ a < D + 7 then some (mlC E D S Ps A K T N I hh (a - D)) else w.2 a) = if D ≤ a ∧ a < D + 7 then some (mlC E D S' Ps A K T N I hh (a - D)) else w.2 a
  unfold mlC
  rw [e]
set_option maxRecDepth 100000 in
set_option maxHeartbeats 4000000 in
theorem r_undo1 {E : EE} {D : Nat} {S : St} {Ps : Nat → St} {A K T N I : St} {hh : Int64} {w : Wo} (z : I 0 = 0) : Cd E mX4_undo (ml E D S Ps A K T N I hh w) [.ref D] (some (.int 0)) (ml E D S Ps A K T N (upd I 2 1) hh w) := by
  refine Cd.of RX4 rfl (by decide) [some (.ref D), none] (Nat.le_of_ble_eq_true rfl) rfl (fun Γ h f hmn => ?_)
  refine v_aload_n (i := 0) h 0 1 dX4_undo_0 rfl rfl ld0 ?_
  refine v_get h 1 4 dX4_undo_1 rfl fo_X4_36 ml_ob rfl ?_
  refine v_if_ne h 4 7 13 dX4_undo_4 rfl (by decide) (fun h4 => absurd z h4) (fun h4 => ?_)
  refine v_aload_n (i := 0) h 7 8 dX4_undo_7 rfl rfl ld0 ?_
  refine v_iconst (v := 1) h 8 9 dX4_undo_8 rfl (by decide) ?_
  refine v_callV1 h 9 12 dX4_undo_9 rfl cb_X4_fails cv_X4_fails ml_ob lk_X4_92 (rok (by decide) (by decide)) ⟨rfl, rfl⟩ ⟨Nat.zero_le _, Nat.zero_le _⟩ (k_fails _) rfl rfl (Nat.le_of_ble_eq_true rfl) ?_
  exact v_iret h 12 f dX4_undo_12 rfl (Nat.zero_le _) (Nat.zero_le _) rfl rfl

set_option maxRecDepth 100000 in
set_option maxHeartbeats 4000000 in
theorem r_undo {E : EE} {D : Nat} {S : St} {Ps : Nat → St} {A K T N I : St} {hh : Int64} {w : Wo} {p : Nat} (hp : p < 4) (e0 : I 0 = nI (p + 1)) : Cd E mX4_undo (ml E D S Ps A K T N I hh w) [.ref D] (some (.int (nI p))) (ml E D (Ps p) Ps A K T N (upd (upd I 0 (nI p)) 2 0) hh w) := by
  refine Cd.of RX4 rfl (by decide) [some (.ref D), none] (Nat.le_of_ble_eq_true rfl) rfl (fun Γ h f hmn => ?_)
  refine v_aload_n (i := 0) h 0 1 dX4_undo_0 rfl rfl ld0 ?_
  refine v_get h 1 4 dX4_undo_1 rfl fo_X4_36 ml_ob rfl ?_
  refine v_if_ne h 4 7 13 dX4_undo_4 rfl (by decide) (fun h4 => ?_) (fun h4 => absurd (nI_inj (b := 0) (by omega) (by decide) (e0.symm.trans h4)) (by omega))
  refine v_aload_n (i := 0) h 13 14 dX4_undo_13 rfl rfl ld0 ?_
  refine v_dup h 14 15 dX4_undo_14 rfl rfl ?_
  refine v_get h 15 18 dX4_undo_15 rfl fo_X4_36 ml_ob rfl ?_
  rw [e0]
  refine v_iconst (v := 1) h 18 19 dX4_undo_18 rfl (by decide) ?_
  refine v_isub h 19 20 dX4_undo_19 rfl ?_
  rw [nI_pred]
  refine v_putM4 h 20 23 dX4_undo_20 rfl fw_X4_36 ?_
  refine v_iconst (v := 0) h 23 24 dX4_undo_23 rfl (by decide) ?_
  refine v_istore_n (i := 1) h 24 25 dX4_undo_24 rfl rfl (by decide) (so1 rfl) ?_
  have loop25 : ∀ d j, j + d = 171 → V E Γ 0 0 25 [some (.ref D), some (.int (nI j))] [] (ml E D (cpA S (Ps p) j) Ps A K T N (upd I 0 (nI p)) hh w) := by
    intro d
    induction d with
    | zero =>
      intro j hj
      obtain rfl : 171 = j := by omega
      refine v_iload_n (i := 1) h 25 26 dX4_undo_25 rfl rfl ld1 ?_
      refine v_sipush (v := nI 171) h 26 29 dX4_undo_26 rfl (by decide) ?_
      refine v_icmp_ge h 29 32 59 dX4_undo_29 rfl (by decide) (fun h29 => ?_) (fun h29 => absurd (nI_le (Nat.le_refl _) (by decide)) h29)
      refine v_aload_n (i := 0) h 59 60 dX4_undo_59 rfl rfl ld0 ?_
      refine v_aload_n (i := 0) h 60 61 dX4_undo_60 rfl rfl ld0 ?_
      refine v_get h 61 64 dX4_undo_61 rfl fo_X4_36 ml_ob rfl ?_
      rw [upd_self]
      refine v_callV1 h 64 67 dX4_undo_64 rfl cb_X4_tells cv_X4_tells ml_ob lk_X4_39 (rok (by decide) (by decide)) ⟨rfl, rfl⟩ ⟨Nat.zero_le _, Nat.zero_le _⟩ (k_tells _) rfl rfl (Nat.le_of_ble_eq_true rfl) ?_
      refine v_iret h 67 f dX4_undo_67 rfl (Nat.zero_le _) (Nat.zero_le _) ?_ ?_
      · rfl
      · exact ml_sE (fun j hj => if_pos hj)
    | succ d ih =>
      intro j hj
      refine v_iload_n (i := 1) h 25 26 dX4_undo_25 rfl rfl ld1 ?_
      refine v_sipush (v := nI 171) h 26 29 dX4_undo_26 rfl (by decide) ?_
      refine v_icmp_ge h 29 32 59 dX4_undo_29 rfl (by decide) (fun h29 => absurd h29 (nI_ge (by omega) (by decide))) (fun h29 => ?_)
      refine v_aload_n (i := 0) h 32 33 dX4_undo_32 rfl rfl ld0 ?_
      refine v_get h 33 36 dX4_undo_33 rfl fo_X4_7 ml_ob rfl ?_
      refine v_iload_n (i := 1) h 36 37 dX4_undo_36 rfl rfl ld1 ?_
      refine v_aload_n (i := 0) h 37 38 dX4_undo_37 rfl rfl ld0 ?_
      refine v_get h 38 41 dX4_undo_38 rfl fo_X4_13 ml_ob rfl ?_
      refine v_sipush (v := nI 171) h 41 44 dX4_undo_41 rfl (by decide) ?_
      refine v_aload_n (i := 0) h 44 45 dX4_undo_44 rfl rfl ld0 ?_
      refine v_get h 45 48 dX4_undo_45 rfl fo_X4_36 ml_ob rfl ?_
      rw [upd_self]
      refine v_imul h 48 49 dX4_undo_48 rfl ?_
      refine v_iload_n (i := 1) h 49 50 dX4_undo_49 rfl rfl ld1 ?_
      rw [pk_mul]
      refine v_iadd h 50 51 dX4_undo_50 rfl ?_
      rw [nI_add]
      refine v_ildPm h 51 52 p j dX4_undo_51 rfl (by omega) (by omega) ?_
      refine v_istSm h 52 53 _ dX4_undo_52 rfl (by omega) ?_
      refine v_iinc (i := 1) h 53 56 dX4_undo_53 rfl ld1 (by first | exact iinc1 _ | rfl) (by decide) (so1 rfl) ?_
      refine v_goto h 56 25 dX4_undo_56 (by decide) ?_
      refine V.world (w' := ml E D (cpA S (Ps p) (j + 1)) Ps A K T N (upd I 0 (nI p)) hh w) (by rw [cpA_s]) (V.weakT (ih (j + 1) (by omega)) (And.intro rfl (And.intro rfl trivial)))
  exact V.weakT (loop25 171 0 (by omega)) (And.intro rfl (And.intro rfl trivial))

