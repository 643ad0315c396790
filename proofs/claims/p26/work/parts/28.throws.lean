/-! WHEN THE DRILL'S METHODS THROW -/
theorem gap {a b x : Int32} (h : a.toInt + 1 = b.toInt) (h1 : a < x) : ¬ x < b := by
  rw [Int32.lt_iff_toInt_lt] at h1 ⊢
  omega
set_option maxRecDepth 100000 in
set_option maxHeartbeats 4000000 in
theorem x_addChair1 {E : EE} (hE : E.1.stackTraces = false) {D : Nat} {S0 S1 : St} {Sv : Nat → St} {sc se tl : Int32} {tx : St} {w : Wo} {sq ri co ch : Int32} (z : sq < 0 ∨ S0 0 ≤ sq) : Cthr E mX3_addChair (dl E D S0 S1 Sv sc se tl tx w) [.ref D, .int sq, .int ri, .int co, .int ch] xI := by
  refine Cthr.of RX3 rfl (by decide) [some (.ref D), some (.int sq), some (.int ri), some (.int co), some (.int ch)] (Nat.le_of_ble_eq_true rfl) rfl (fun Γ h f hmn => ?_)
  refine v_aload_n (i := 0) h 0 1 dX3_addChair_0 rfl rfl ld0 ?_
  refine v_get h 1 4 dX3_addChair_1 rfl fo_X3_10 dl_dr rfl ?_
  refine v_iload_n (i := 1) h 4 5 dX3_addChair_4 rfl rfl ld1 ?_
  refine v_callV1 h 5 8 dX3_addChair_5 rfl cb_X1_hasSpan cv_X1_hasSpan dl_h0.ln lk_X3_31 (rok (by decide) (by decide)) ⟨rfl, rfl⟩ ⟨Nat.zero_le _, Nat.zero_le _⟩ (Cd.d0 (c_spanN z)) rfl rfl (Nat.le_of_ble_eq_true rfl) ?_
  refine v_if_ne h 8 11 21 dX3_addChair_8 rfl (by decide) (fun h8 => absurd rfl h8) (fun h8 => ?_)
  exact v_throw h f hE 11 14 15 17 20 dX3_addChair_11 dX3_addChair_14 dX3_addChair_15 dX3_addChair_17 dX3_addChair_20 rfl rfl rfl rfl tw_I (tx := "no such span") (by decide +kernel) ⟨by decide, by decide, rfl, rfl⟩

set_option maxRecDepth 100000 in
set_option maxHeartbeats 4000000 in
theorem x_addChair2 {E : EE} (hE : E.1.stackTraces = false) {D : Nat} {S0 S1 : St} {Sv : Nat → St} {sc se tl : Int32} {tx : St} {w : Wo} {sq ri co ch : Int32} (y1 : ¬ sq < 0) (y2 : ¬ S0 0 ≤ sq) (z : ri < 1 ∨ 4 < ri) : Cthr E mX3_addChair (dl E D S0 S1 Sv sc se tl tx w) [.ref D, .int sq, .int ri, .int co, .int ch] xA := by
  refine Cthr.of RX3 rfl (by decide) [some (.ref D), some (.int sq), some (.int ri), some (.int co), some (.int ch)] (Nat.le_of_ble_eq_true rfl) rfl (fun Γ h f hmn => ?_)
  refine v_aload_n (i := 0) h 0 1 dX3_addChair_0 rfl rfl ld0 ?_
  refine v_get h 1 4 dX3_addChair_1 rfl fo_X3_10 dl_dr rfl ?_
  refine v_iload_n (i := 1) h 4 5 dX3_addChair_4 rfl rfl ld1 ?_
  refine v_callV1 h 5 8 dX3_addChair_5 rfl cb_X1_hasSpan cv_X1_hasSpan dl_h0.ln lk_X3_31 (rok (by decide) (by decide)) ⟨rfl, rfl⟩ ⟨Nat.zero_le _, Nat.zero_le _⟩ (Cd.d0 (c_spanY y1 y2)) rfl rfl (Nat.le_of_ble_eq_true rfl) ?_
  refine v_if_ne h 8 11 21 dX3_addChair_8 rfl (by decide) (fun h8 => ?_) (fun h8 => absurd h8 (by decide))
  refine v_iload_n (i := 2) h 21 22 dX3_addChair_21 rfl rfl ld2 ?_
  refine v_iconst (v := 1) h 22 23 dX3_addChair_22 rfl (by decide) ?_
  refine v_icmp_lt h 23 26 41 dX3_addChair_23 rfl (by decide) (fun h23 => ?_) (fun h23 => ?_)
  · exact v_throw h f hE 41 44 45 47 50 dX3_addChair_41 dX3_addChair_44 dX3_addChair_45 dX3_addChair_47 dX3_addChair_50 rfl rfl rfl rfl tw_A (tx := "riders or cold out of range") (by decide +kernel) ⟨by decide, by decide, rfl, rfl⟩
  · refine v_iload_n (i := 2) h 26 27 dX3_addChair_26 rfl rfl ld2 ?_
    refine v_iconst (v := 4) h 27 28 dX3_addChair_27 rfl (by decide) ?_
    refine v_icmp_gt h 28 31 41 dX3_addChair_28 rfl (by decide) (fun h28 => ?_) (fun h28 => absurd (z.resolve_left h23) h28)
    exact v_throw h f hE 41 44 45 47 50 dX3_addChair_41 dX3_addChair_44 dX3_addChair_45 dX3_addChair_47 dX3_addChair_50 rfl rfl rfl rfl tw_A (tx := "riders or cold out of range") (by decide +kernel) ⟨by decide, by decide, rfl, rfl⟩

set_option maxRecDepth 100000 in
set_option maxHeartbeats 4000000 in
theorem x_addChair2b {E : EE} (hE : E.1.stackTraces = false) {D : Nat} {S0 S1 : St} {Sv : Nat → St} {sc se tl : Int32} {tx : St} {w : Wo} {sq ri co ch : Int32} (y1 : ¬ sq < 0) (y2 : ¬ S0 0 ≤ sq) (y3 : ¬ ri < 1) (y4 : ¬ 4 < ri) (z : co < 0 ∨ 20 < co) : Cthr E mX3_addChair (dl E D S0 S1 Sv sc se tl tx w) [.ref D, .int sq, .int ri, .int co, .int ch] xA := by
  refine Cthr.of RX3 rfl (by decide) [some (.ref D), some (.int sq), some (.int ri), some (.int co), some (.int ch)] (Nat.le_of_ble_eq_true rfl) rfl (fun Γ h f hmn => ?_)
  refine v_aload_n (i := 0) h 0 1 dX3_addChair_0 rfl rfl ld0 ?_
  refine v_get h 1 4 dX3_addChair_1 rfl fo_X3_10 dl_dr rfl ?_
  refine v_iload_n (i := 1) h 4 5 dX3_addChair_4 rfl rfl ld1 ?_
  refine v_callV1 h 5 8 dX3_addChair_5 rfl cb_X1_hasSpan cv_X1_hasSpan dl_h0.ln lk_X3_31 (rok (by decide) (by decide)) ⟨rfl, rfl⟩ ⟨Nat.zero_le _, Nat.zero_le _⟩ (Cd.d0 (c_spanY y1 y2)) rfl rfl (Nat.le_of_ble_eq_true rfl) ?_
  refine v_if_ne h 8 11 21 dX3_addChair_8 rfl (by decide) (fun h8 => ?_) (fun h8 => absurd h8 (by decide))
  refine v_iload_n (i := 2) h 21 22 dX3_addChair_21 rfl rfl ld2 ?_
  refine v_iconst (v := 1) h 22 23 dX3_addChair_22 rfl (by decide) ?_
  refine v_icmp_lt h 23 26 41 dX3_addChair_23 rfl (by decide) (fun h23 => absurd h23 y3) (fun h23 => ?_)
  refine v_iload_n (i := 2) h 26 27 dX3_addChair_26 rfl rfl ld2 ?_
  refine v_iconst (v := 4) h 27 28 dX3_addChair_27 rfl (by decide) ?_
  refine v_icmp_gt h 28 31 41 dX3_addChair_28 rfl (by decide) (fun h28 => absurd h28 y4) (fun h28 => ?_)
  refine v_iload_n (i := 3) h 31 32 dX3_addChair_31 rfl rfl ld3 ?_
  refine v_if_lt h 32 35 41 dX3_addChair_32 rfl (by decide) (fun h32 => ?_) (fun h32 => ?_)
  · exact v_throw h f hE 41 44 45 47 50 dX3_addChair_41 dX3_addChair_44 dX3_addChair_45 dX3_addChair_47 dX3_addChair_50 rfl rfl rfl rfl tw_A (tx := "riders or cold out of range") (by decide +kernel) ⟨by decide, by decide, rfl, rfl⟩
  · refine v_iload_n (i := 3) h 35 36 dX3_addChair_35 rfl rfl ld3 ?_
    refine v_bipush (v := 20) h 36 38 dX3_addChair_36 rfl (by decide) ?_
    refine v_icmp_le h 38 41 51 dX3_addChair_38 rfl (by decide) (fun h38 => absurd (z.resolve_left h32) (le_nlt h38)) (fun h38 => ?_)
    exact v_throw h f hE 41 44 45 47 50 dX3_addChair_41 dX3_addChair_44 dX3_addChair_45 dX3_addChair_47 dX3_addChair_50 rfl rfl rfl rfl tw_A (tx := "riders or cold out of range") (by decide +kernel) ⟨by decide, by decide, rfl, rfl⟩

set_option maxRecDepth 100000 in
set_option maxHeartbeats 4000000 in
theorem x_addChair3 {E : EE} (hE : E.1.stackTraces = false) {D : Nat} {S0 S1 : St} {Sv : Nat → St} {sc se tl : Int32} {tx : St} {w : Wo} {sq ri co ch : Int32} (y1 : ¬ sq < 0) (y2 : ¬ S0 0 ≤ sq) (y3 : ¬ ri < 1) (y4 : ¬ 4 < ri) (y5 : ¬ co < 0) (y6 : ¬ 20 < co) (z : S0 7 = 14) : Cthr E mX3_addChair (dl E D S0 S1 Sv sc se tl tx w) [.ref D, .int sq, .int ri, .int co, .int ch] xS := by
  refine Cthr.of RX3 rfl (by decide) [some (.ref D), some (.int sq), some (.int ri), some (.int co), some (.int ch)] (Nat.le_of_ble_eq_true rfl) rfl (fun Γ h f hmn => ?_)
  refine v_aload_n (i := 0) h 0 1 dX3_addChair_0 rfl rfl ld0 ?_
  refine v_get h 1 4 dX3_addChair_1 rfl fo_X3_10 dl_dr rfl ?_
  refine v_iload_n (i := 1) h 4 5 dX3_addChair_4 rfl rfl ld1 ?_
  refine v_callV1 h 5 8 dX3_addChair_5 rfl cb_X1_hasSpan cv_X1_hasSpan dl_h0.ln lk_X3_31 (rok (by decide) (by decide)) ⟨rfl, rfl⟩ ⟨Nat.zero_le _, Nat.zero_le _⟩ (Cd.d0 (c_spanY y1 y2)) rfl rfl (Nat.le_of_ble_eq_true rfl) ?_
  refine v_if_ne h 8 11 21 dX3_addChair_8 rfl (by decide) (fun h8 => ?_) (fun h8 => absurd h8 (by decide))
  refine v_iload_n (i := 2) h 21 22 dX3_addChair_21 rfl rfl ld2 ?_
  refine v_iconst (v := 1) h 22 23 dX3_addChair_22 rfl (by decide) ?_
  refine v_icmp_lt h 23 26 41 dX3_addChair_23 rfl (by decide) (fun h23 => absurd h23 y3) (fun h23 => ?_)
  refine v_iload_n (i := 2) h 26 27 dX3_addChair_26 rfl rfl ld2 ?_
  refine v_iconst (v := 4) h 27 28 dX3_addChair_27 rfl (by decide) ?_
  refine v_icmp_gt h 28 31 41 dX3_addChair_28 rfl (by decide) (fun h28 => absurd h28 y4) (fun h28 => ?_)
  refine v_iload_n (i := 3) h 31 32 dX3_addChair_31 rfl rfl ld3 ?_
  refine v_if_lt h 32 35 41 dX3_addChair_32 rfl (by decide) (fun h32 => absurd h32 y5) (fun h32 => ?_)
  refine v_iload_n (i := 3) h 35 36 dX3_addChair_35 rfl rfl ld3 ?_
  refine v_bipush (v := 20) h 36 38 dX3_addChair_36 rfl (by decide) ?_
  refine v_icmp_le h 38 41 51 dX3_addChair_38 rfl (by decide) (fun h38 => ?_) (fun h38 => absurd (nlt_le y6) h38)
  refine v_aload_n (i := 0) h 51 52 dX3_addChair_51 rfl rfl ld0 ?_
  refine v_get h 52 55 dX3_addChair_52 rfl fo_X3_10 dl_dr rfl ?_
  refine v_get h 55 58 dX3_addChair_55 rfl fo_X3_47 dl_h0.ln rfl ?_
  refine v_bipush (v := 14) h 58 60 dX3_addChair_58 rfl (by decide) ?_
  refine v_icmp_lt h 60 63 73 dX3_addChair_60 rfl (by decide) (fun h60 => absurd h60 (by rw [z]; decide)) (fun h60 => ?_)
  exact v_throw h f hE 63 66 67 69 72 dX3_addChair_63 dX3_addChair_66 dX3_addChair_67 dX3_addChair_69 dX3_addChair_72 rfl rfl rfl rfl tw_S (tx := "no more chairs") (by decide +kernel) ⟨by decide, by decide, rfl, rfl⟩

set_option maxRecDepth 100000 in
set_option maxHeartbeats 4000000 in
theorem x_addTeam1 {E : EE} (hE : E.1.stackTraces = false) {D : Nat} {S0 S1 : St} {Sv : Nat → St} {sc se tl : Int32} {tx : St} {w : Wo} {sq ti : Int32} (z : sq < 0 ∨ S0 0 ≤ sq) : Cthr E mX3_addTeam (dl E D S0 S1 Sv sc se tl tx w) [.ref D, .int sq, .int ti] xI := by
  refine Cthr.of RX3 rfl (by decide) [some (.ref D), some (.int sq), some (.int ti)] (Nat.le_of_ble_eq_true rfl) rfl (fun Γ h f hmn => ?_)
  refine v_aload_n (i := 0) h 0 1 dX3_addTeam_0 rfl rfl ld0 ?_
  refine v_get h 1 4 dX3_addTeam_1 rfl fo_X3_10 dl_dr rfl ?_
  refine v_iload_n (i := 1) h 4 5 dX3_addTeam_4 rfl rfl ld1 ?_
  refine v_callV1 h 5 8 dX3_addTeam_5 rfl cb_X1_hasSpan cv_X1_hasSpan dl_h0.ln lk_X3_31 (rok (by decide) (by decide)) ⟨rfl, rfl⟩ ⟨Nat.zero_le _, Nat.zero_le _⟩ (Cd.d0 (c_spanN z)) rfl rfl (Nat.le_of_ble_eq_true rfl) ?_
  refine v_if_ne h 8 11 21 dX3_addTeam_8 rfl (by decide) (fun h8 => absurd rfl h8) (fun h8 => ?_)
  exact v_throw h f hE 11 14 15 17 20 dX3_addTeam_11 dX3_addTeam_14 dX3_addTeam_15 dX3_addTeam_17 dX3_addTeam_20 rfl rfl rfl rfl tw_I (tx := "no such span") (by decide +kernel) ⟨by decide, by decide, rfl, rfl⟩

set_option maxRecDepth 100000 in
set_option maxHeartbeats 4000000 in
theorem x_addTeam2 {E : EE} (hE : E.1.stackTraces = false) {D : Nat} {S0 S1 : St} {Sv : Nat → St} {sc se tl : Int32} {tx : St} {w : Wo} {sq ti : Int32} (y1 : ¬ sq < 0) (y2 : ¬ S0 0 ≤ sq) (z : ti < 0 ∨ 30 < ti) : Cthr E mX3_addTeam (dl E D S0 S1 Sv sc se tl tx w) [.ref D, .int sq, .int ti] xA := by
  refine Cthr.of RX3 rfl (by decide) [some (.ref D), some (.int sq), some (.int ti)] (Nat.le_of_ble_eq_true rfl) rfl (fun Γ h f hmn => ?_)
  refine v_aload_n (i := 0) h 0 1 dX3_addTeam_0 rfl rfl ld0 ?_
  refine v_get h 1 4 dX3_addTeam_1 rfl fo_X3_10 dl_dr rfl ?_
  refine v_iload_n (i := 1) h 4 5 dX3_addTeam_4 rfl rfl ld1 ?_
  refine v_callV1 h 5 8 dX3_addTeam_5 rfl cb_X1_hasSpan cv_X1_hasSpan dl_h0.ln lk_X3_31 (rok (by decide) (by decide)) ⟨rfl, rfl⟩ ⟨Nat.zero_le _, Nat.zero_le _⟩ (Cd.d0 (c_spanY y1 y2)) rfl rfl (Nat.le_of_ble_eq_true rfl) ?_
  refine v_if_ne h 8 11 21 dX3_addTeam_8 rfl (by decide) (fun h8 => ?_) (fun h8 => absurd h8 (by decide))
  refine v_iload_n (i := 2) h 21 22 dX3_addTeam_21 rfl rfl ld2 ?_
  refine v_if_lt h 22 25 31 dX3_addTeam_22 rfl (by decide) (fun h22 => ?_) (fun h22 => ?_)
  · exact v_throw h f hE 31 34 35 37 40 dX3_addTeam_31 dX3_addTeam_34 dX3_addTeam_35 dX3_addTeam_37 dX3_addTeam_40 rfl rfl rfl rfl tw_A (tx := "tiredness out of range") (by decide +kernel) ⟨by decide, by decide, rfl, rfl⟩
  · refine v_iload_n (i := 2) h 25 26 dX3_addTeam_25 rfl rfl ld2 ?_
    refine v_bipush (v := 30) h 26 28 dX3_addTeam_26 rfl (by decide) ?_
    refine v_icmp_le h 28 31 41 dX3_addTeam_28 rfl (by decide) (fun h28 => absurd (z.resolve_left h22) (le_nlt h28)) (fun h28 => ?_)
    exact v_throw h f hE 31 34 35 37 40 dX3_addTeam_31 dX3_addTeam_34 dX3_addTeam_35 dX3_addTeam_37 dX3_addTeam_40 rfl rfl rfl rfl tw_A (tx := "tiredness out of range") (by decide +kernel) ⟨by decide, by decide, rfl, rfl⟩

set_option maxRecDepth 100000 in
set_option maxHeartbeats 4000000 in
theorem x_addTeam3 {E : EE} (hE : E.1.stackTraces = false) {D : Nat} {S0 S1 : St} {Sv : Nat → St} {sc se tl : Int32} {tx : St} {w : Wo} {sq ti : Int32} (y1 : ¬ sq < 0) (y2 : ¬ S0 0 ≤ sq) (y3 : ¬ ti < 0) (y4 : ¬ 30 < ti) (z : S0 8 = 4) : Cthr E mX3_addTeam (dl E D S0 S1 Sv sc se tl tx w) [.ref D, .int sq, .int ti] xS := by
  refine Cthr.of RX3 rfl (by decide) [some (.ref D), some (.int sq), some (.int ti)] (Nat.le_of_ble_eq_true rfl) rfl (fun Γ h f hmn => ?_)
  refine v_aload_n (i := 0) h 0 1 dX3_addTeam_0 rfl rfl ld0 ?_
  refine v_get h 1 4 dX3_addTeam_1 rfl fo_X3_10 dl_dr rfl ?_
  refine v_iload_n (i := 1) h 4 5 dX3_addTeam_4 rfl rfl ld1 ?_
  refine v_callV1 h 5 8 dX3_addTeam_5 rfl cb_X1_hasSpan cv_X1_hasSpan dl_h0.ln lk_X3_31 (rok (by decide) (by decide)) ⟨rfl, rfl⟩ ⟨Nat.zero_le _, Nat.zero_le _⟩ (Cd.d0 (c_spanY y1 y2)) rfl rfl (Nat.le_of_ble_eq_true rfl) ?_
  refine v_if_ne h 8 11 21 dX3_addTeam_8 rfl (by decide) (fun h8 => ?_) (fun h8 => absurd h8 (by decide))
  refine v_iload_n (i := 2) h 21 22 dX3_addTeam_21 rfl rfl ld2 ?_
  refine v_if_lt h 22 25 31 dX3_addTeam_22 rfl (by decide) (fun h22 => absurd h22 y3) (fun h22 => ?_)
  refine v_iload_n (i := 2) h 25 26 dX3_addTeam_25 rfl rfl ld2 ?_
  refine v_bipush (v := 30) h 26 28 dX3_addTeam_26 rfl (by decide) ?_
  refine v_icmp_le h 28 31 41 dX3_addTeam_28 rfl (by decide) (fun h28 => ?_) (fun h28 => absurd (nlt_le y4) h28)
  refine v_aload_n (i := 0) h 41 42 dX3_addTeam_41 rfl rfl ld0 ?_
  refine v_get h 42 45 dX3_addTeam_42 rfl fo_X3_10 dl_dr rfl ?_
  refine v_get h 45 48 dX3_addTeam_45 rfl fo_X3_65 dl_h0.ln rfl ?_
  refine v_iconst (v := 4) h 48 49 dX3_addTeam_48 rfl (by decide) ?_
  refine v_icmp_lt h 49 52 62 dX3_addTeam_49 rfl (by decide) (fun h49 => absurd h49 (by rw [z]; decide)) (fun h49 => ?_)
  exact v_throw h f hE 52 55 56 58 61 dX3_addTeam_52 dX3_addTeam_55 dX3_addTeam_56 dX3_addTeam_58 dX3_addTeam_61 rfl rfl rfl rfl tw_S (tx := "no more teams") (by decide +kernel) ⟨by decide, by decide, rfl, rfl⟩

set_option maxRecDepth 100000 in
set_option maxHeartbeats 4000000 in
theorem x_setWay1 {E : EE} (hE : E.1.stackTraces = false) {D : Nat} {S0 S1 : St} {Sv : Nat → St} {sc se tl : Int32} {tx : St} {w : Wo} {sp nc nt ne m : Nat} (hI : Inv S0 sp nc nt ne m) {sq mi : Int32} (z : sq < 0 ∨ S0 0 - 2 < sq) : Cthr E mX3_setWay (dl E D S0 S1 Sv sc se tl tx w) [.ref D, .int sq, .int mi] xI := by
  refine Cthr.of RX3 rfl (by decide) [some (.ref D), some (.int sq), some (.int mi), none] (Nat.le_of_ble_eq_true rfl) rfl (fun Γ h f hmn => ?_)
  refine v_aload_n (i := 0) h 0 1 dX3_setWay_0 rfl rfl ld0 ?_
  refine v_get h 1 4 dX3_setWay_1 rfl fo_X3_10 dl_dr rfl ?_
  refine v_iload_n (i := 1) h 4 5 dX3_setWay_4 rfl rfl ld1 ?_
  refine v_callV1 h 5 8 dX3_setWay_5 rfl cb_X1_hasWay cv_X1_hasWay dl_h0.ln lk_X3_74 (rok (by decide) (by decide)) ⟨rfl, rfl⟩ ⟨Nat.zero_le _, Nat.zero_le _⟩ (Cd.d0 (c_wayN hI.1.1.2.1 hI.1.1.2.2.1 hI.1.1.1 z)) rfl rfl (Nat.le_of_ble_eq_true rfl) ?_
  refine v_if_ne h 8 11 21 dX3_setWay_8 rfl (by decide) (fun h8 => absurd rfl h8) (fun h8 => ?_)
  exact v_throw h f hE 11 14 15 17 20 dX3_setWay_11 dX3_setWay_14 dX3_setWay_15 dX3_setWay_17 dX3_setWay_20 rfl rfl rfl rfl tw_I (tx := "no such span, or the last one") (by decide +kernel) ⟨by decide, by decide, rfl, rfl⟩

set_option maxRecDepth 100000 in
set_option maxHeartbeats 4000000 in
theorem x_setWay2 {E : EE} (hE : E.1.stackTraces = false) {D : Nat} {S0 S1 : St} {Sv : Nat → St} {sc se tl : Int32} {tx : St} {w : Wo} {sp nc nt ne m : Nat} (hI : Inv S0 sp nc nt ne m) {sq mi : Int32} (y1 : ¬ sq < 0) (y2 : ¬ S0 0 - 2 < sq) (z : mi < 1 ∨ 20 < mi) : Cthr E mX3_setWay (dl E D S0 S1 Sv sc se tl tx w) [.ref D, .int sq, .int mi] xA := by
  refine Cthr.of RX3 rfl (by decide) [some (.ref D), some (.int sq), some (.int mi), none] (Nat.le_of_ble_eq_true rfl) rfl (fun Γ h f hmn => ?_)
  refine v_aload_n (i := 0) h 0 1 dX3_setWay_0 rfl rfl ld0 ?_
  refine v_get h 1 4 dX3_setWay_1 rfl fo_X3_10 dl_dr rfl ?_
  refine v_iload_n (i := 1) h 4 5 dX3_setWay_4 rfl rfl ld1 ?_
  refine v_callV1 h 5 8 dX3_setWay_5 rfl cb_X1_hasWay cv_X1_hasWay dl_h0.ln lk_X3_74 (rok (by decide) (by decide)) ⟨rfl, rfl⟩ ⟨Nat.zero_le _, Nat.zero_le _⟩ (Cd.d0 (c_wayY hI.1.1.2.1 hI.1.1.2.2.1 hI.1.1.1 y1 y2)) rfl rfl (Nat.le_of_ble_eq_true rfl) ?_
  refine v_if_ne h 8 11 21 dX3_setWay_8 rfl (by decide) (fun h8 => ?_) (fun h8 => absurd h8 (by decide))
  refine v_iload_n (i := 2) h 21 22 dX3_setWay_21 rfl rfl ld2 ?_
  refine v_iconst (v := 1) h 22 23 dX3_setWay_22 rfl (by decide) ?_
  refine v_icmp_lt h 23 26 32 dX3_setWay_23 rfl (by decide) (fun h23 => ?_) (fun h23 => ?_)
  · exact v_throw h f hE 32 35 36 38 41 dX3_setWay_32 dX3_setWay_35 dX3_setWay_36 dX3_setWay_38 dX3_setWay_41 rfl rfl rfl rfl tw_A (tx := "minutes out of range") (by decide +kernel) ⟨by decide, by decide, rfl, rfl⟩
  · refine v_iload_n (i := 2) h 26 27 dX3_setWay_26 rfl rfl ld2 ?_
    refine v_bipush (v := 20) h 27 29 dX3_setWay_27 rfl (by decide) ?_
    refine v_icmp_le h 29 32 42 dX3_setWay_29 rfl (by decide) (fun h29 => absurd (z.resolve_left h23) (le_nlt h29)) (fun h29 => ?_)
    exact v_throw h f hE 32 35 36 38 41 dX3_setWay_32 dX3_setWay_35 dX3_setWay_36 dX3_setWay_38 dX3_setWay_41 rfl rfl rfl rfl tw_A (tx := "minutes out of range") (by decide +kernel) ⟨by decide, by decide, rfl, rfl⟩

set_option maxRecDepth 100000 in
set_option maxHeartbeats 4000000 in
theorem x_setCold1 {E : EE} (hE : E.1.stackTraces = false) {D : Nat} {S0 S1 : St} {Sv : Nat → St} {sc se tl : Int32} {tx : St} {w : Wo} {i co : Int32} (z : i < 0 ∨ S0 7 ≤ i) : Cthr E mX3_setCold (dl E D S0 S1 Sv sc se tl tx w) [.ref D, .int i, .int co] xI := by
  refine Cthr.of RX3 rfl (by decide) [some (.ref D), some (.int i), some (.int co), none, none] (Nat.le_of_ble_eq_true rfl) rfl (fun Γ h f hmn => ?_)
  refine v_aload_n (i := 0) h 0 1 dX3_setCold_0 rfl rfl ld0 ?_
  refine v_get h 1 4 dX3_setCold_1 rfl fo_X3_10 dl_dr rfl ?_
  refine v_iload_n (i := 1) h 4 5 dX3_setCold_4 rfl rfl ld1 ?_
  refine v_callV1 h 5 8 dX3_setCold_5 rfl cb_X1_chairAt cv_X1_chairAt dl_h0.ln lk_X3_89 (rok (by decide) (by decide)) ⟨rfl, rfl⟩ ⟨Nat.zero_le _, Nat.zero_le _⟩ (Cd.d0 (k_chairNone z)) rfl rfl (Nat.le_of_ble_eq_true rfl) ?_
  refine v_astore_nN (i := 3) h 8 9 dX3_setCold_8 rfl rfl (by decide) (so3 rfl) ?_
  refine v_aload_nN (i := 3) h 9 10 dX3_setCold_9 rfl rfl ld3 ?_
  refine v_ifnonnullN h 10 13 dX3_setCold_10 rfl ?_
  exact v_throw h f hE 13 16 17 19 22 dX3_setCold_13 dX3_setCold_16 dX3_setCold_17 dX3_setCold_19 dX3_setCold_22 rfl rfl rfl rfl tw_I (tx := "no such chair") (by decide +kernel) ⟨by decide, by decide, rfl, rfl⟩

set_option maxRecDepth 100000 in
set_option maxHeartbeats 4000000 in
theorem x_setCold2 {E : EE} (hE : E.1.stackTraces = false) {D : Nat} {S0 S1 : St} {Sv : Nat → St} {sc se tl : Int32} {tx : St} {w : Wo} {sp nc nt ne m : Nat} (hI : Inv S0 sp nc nt ne m) {c : Nat} (hc : c < nc) {co : Int32} (z : co < 0 ∨ 20 < co) : Cthr E mX3_setCold (dl E D S0 S1 Sv sc se tl tx w) [.ref D, .int (nI c), .int co] xA := by
  refine Cthr.of RX3 rfl (by decide) [some (.ref D), some (.int (nI c)), some (.int co), none, none] (Nat.le_of_ble_eq_true rfl) rfl (fun Γ h f hmn => ?_)
  have hn14 := hI.n14
  have hc14 : c < 14 := by omega
  refine v_aload_n (i := 0) h 0 1 dX3_setCold_0 rfl rfl ld0 ?_
  refine v_get h 1 4 dX3_setCold_1 rfl fo_X3_10 dl_dr rfl ?_
  refine v_iload_n (i := 1) h 4 5 dX3_setCold_4 rfl rfl ld1 ?_
  refine v_callV1 h 5 8 dX3_setCold_5 rfl cb_X1_chairAt cv_X1_chairAt dl_h0.ln lk_X3_89 (rok (by decide) (by decide)) ⟨rfl, rfl⟩ ⟨Nat.zero_le _, Nat.zero_le _⟩ (Cd.d0 (k_chairS hI.c7 hI.n14 (c := c) (by omega))) rfl rfl (Nat.le_of_ble_eq_true rfl) ?_
  refine v_astore_n (i := 3) h 8 9 dX3_setCold_8 rfl rfl (by decide) (so3 rfl) ?_
  refine v_aload_n (i := 3) h 9 10 dX3_setCold_9 rfl rfl ld3 ?_
  refine v_ifnonnull h 10 23 dX3_setCold_10 (by decide) ?_
  refine v_iload_n (i := 2) h 23 24 dX3_setCold_23 rfl rfl ld2 ?_
  refine v_if_lt h 24 27 33 dX3_setCold_24 rfl (by decide) (fun h24 => ?_) (fun h24 => ?_)
  · exact v_throw h f hE 33 36 37 39 42 dX3_setCold_33 dX3_setCold_36 dX3_setCold_37 dX3_setCold_39 dX3_setCold_42 rfl rfl rfl rfl tw_A (tx := "cold out of range") (by decide +kernel) ⟨by decide, by decide, rfl, rfl⟩
  · refine v_iload_n (i := 2) h 27 28 dX3_setCold_27 rfl rfl ld2 ?_
    refine v_bipush (v := 20) h 28 30 dX3_setCold_28 rfl (by decide) ?_
    refine v_icmp_le h 30 33 43 dX3_setCold_30 rfl (by decide) (fun h30 => absurd (z.resolve_left h24) (le_nlt h30)) (fun h30 => ?_)
    exact v_throw h f hE 33 36 37 39 42 dX3_setCold_33 dX3_setCold_36 dX3_setCold_37 dX3_setCold_39 dX3_setCold_42 rfl rfl rfl rfl tw_A (tx := "cold out of range") (by decide +kernel) ⟨by decide, by decide, rfl, rfl⟩

set_option maxRecDepth 100000 in
set_option maxHeartbeats 4000000 in
theorem x_setCold3 {E : EE} (hE : E.1.stackTraces = false) {D : Nat} {S0 S1 : St} {Sv : Nat → St} {sc se tl : Int32} {tx : St} {w : Wo} {sp nc nt ne m : Nat} (hI : Inv S0 sp nc nt ne m) {c : Nat} (hc : c < nc) {co : Int32} (y5 : ¬ co < 0) (y6 : ¬ 20 < co) (z : S0 (13 + 8 * c + 4) = 2) : Cthr E mX3_setCold (dl E D S0 S1 Sv sc se tl tx w) [.ref D, .int (nI c), .int co] xS := by
  refine Cthr.of RX3 rfl (by decide) [some (.ref D), some (.int (nI c)), some (.int co), none, none] (Nat.le_of_ble_eq_true rfl) rfl (fun Γ h f hmn => ?_)
  have hn14 := hI.n14
  have hc14 : c < 14 := by omega
  refine v_aload_n (i := 0) h 0 1 dX3_setCold_0 rfl rfl ld0 ?_
  refine v_get h 1 4 dX3_setCold_1 rfl fo_X3_10 dl_dr rfl ?_
  refine v_iload_n (i := 1) h 4 5 dX3_setCold_4 rfl rfl ld1 ?_
  refine v_callV1 h 5 8 dX3_setCold_5 rfl cb_X1_chairAt cv_X1_chairAt dl_h0.ln lk_X3_89 (rok (by decide) (by decide)) ⟨rfl, rfl⟩ ⟨Nat.zero_le _, Nat.zero_le _⟩ (Cd.d0 (k_chairS hI.c7 hI.n14 (c := c) (by omega))) rfl rfl (Nat.le_of_ble_eq_true rfl) ?_
  refine v_astore_n (i := 3) h 8 9 dX3_setCold_8 rfl rfl (by decide) (so3 rfl) ?_
  refine v_aload_n (i := 3) h 9 10 dX3_setCold_9 rfl rfl ld3 ?_
  refine v_ifnonnull h 10 23 dX3_setCold_10 (by decide) ?_
  refine v_iload_n (i := 2) h 23 24 dX3_setCold_23 rfl rfl ld2 ?_
  refine v_if_lt h 24 27 33 dX3_setCold_24 rfl (by decide) (fun h24 => absurd h24 y5) (fun h24 => ?_)
  refine v_iload_n (i := 2) h 27 28 dX3_setCold_27 rfl rfl ld2 ?_
  refine v_bipush (v := 20) h 28 30 dX3_setCold_28 rfl (by decide) ?_
  refine v_icmp_le h 30 33 43 dX3_setCold_30 rfl (by decide) (fun h30 => ?_) (fun h30 => absurd (nlt_le y6) h30)
  refine v_aload_n (i := 3) h 43 44 dX3_setCold_43 rfl rfl ld3 ?_
  refine v_get h 44 47 dX3_setCold_44 rfl fo_X3_97 (dl_h0.ch (by assumption)) rfl ?_
  refine v_iconst (v := 2) h 47 48 dX3_setCold_47 rfl (by decide) ?_
  refine v_icmp_ne h 48 51 61 dX3_setCold_48 rfl (by decide) (fun h48 => absurd z h48) (fun h48 => ?_)
  exact v_throw h f hE 51 54 55 57 60 dX3_setCold_51 dX3_setCold_54 dX3_setCold_55 dX3_setCold_57 dX3_setCold_60 rfl rfl rfl rfl tw_S (tx := "the chair is empty") (by decide +kernel) ⟨by decide, by decide, rfl, rfl⟩

set_option maxRecDepth 100000 in
set_option maxHeartbeats 4000000 in
theorem x_callOff1 {E : EE} (hE : E.1.stackTraces = false) {D : Nat} {S0 S1 : St} {Sv : Nat → St} {sc se tl : Int32} {tx : St} {w : Wo} {i : Int32} (z : i < 0 ∨ S0 8 ≤ i) : Cthr E mX3_callOff (dl E D S0 S1 Sv sc se tl tx w) [.ref D, .int i] xI := by
  refine Cthr.of RX3 rfl (by decide) [some (.ref D), some (.int i), none, none, none] (Nat.le_of_ble_eq_true rfl) rfl (fun Γ h f hmn => ?_)
  refine v_aload_n (i := 0) h 0 1 dX3_callOff_0 rfl rfl ld0 ?_
  refine v_get h 1 4 dX3_callOff_1 rfl fo_X3_10 dl_dr rfl ?_
  refine v_iload_n (i := 1) h 4 5 dX3_callOff_4 rfl rfl ld1 ?_
  refine v_callV1 h 5 8 dX3_callOff_5 rfl cb_X1_teamAt cv_X1_teamAt dl_h0.ln lk_X3_107 (rok (by decide) (by decide)) ⟨rfl, rfl⟩ ⟨Nat.zero_le _, Nat.zero_le _⟩ (Cd.d0 (k_teamNone z)) rfl rfl (Nat.le_of_ble_eq_true rfl) ?_
  refine v_astore_nN (i := 2) h 8 9 dX3_callOff_8 rfl rfl (by decide) (so2 rfl) ?_
  refine v_aload_nN (i := 2) h 9 10 dX3_callOff_9 rfl rfl ld2 ?_
  refine v_ifnonnullN h 10 13 dX3_callOff_10 rfl ?_
  exact v_throw h f hE 13 16 17 19 22 dX3_callOff_13 dX3_callOff_16 dX3_callOff_17 dX3_callOff_19 dX3_callOff_22 rfl rfl rfl rfl tw_I (tx := "no such team") (by decide +kernel) ⟨by decide, by decide, rfl, rfl⟩

set_option maxRecDepth 100000 in
set_option maxHeartbeats 4000000 in
theorem x_pass1 {E : EE} (hE : E.1.stackTraces = false) {D : Nat} {S0 S1 : St} {Sv : Nat → St} {sc se tl : Int32} {tx : St} {w : Wo} {x : Int32} (z : x < 1 ∨ 500 < x) : Cthr E mX3_pass (dl E D S0 S1 Sv sc se tl tx w) [.ref D, .int x] xA := by
  refine Cthr.of RX3 rfl (by decide) [some (.ref D), some (.int x), none, none] (Nat.le_of_ble_eq_true rfl) rfl (fun Γ h f hmn => ?_)
  refine v_iload_n (i := 1) h 0 1 dX3_pass_0 rfl rfl ld1 ?_
  refine v_iconst (v := 1) h 1 2 dX3_pass_1 rfl (by decide) ?_
  refine v_icmp_lt h 2 5 12 dX3_pass_2 rfl (by decide) (fun h2 => ?_) (fun h2 => ?_)
  · exact v_throw h f hE 12 15 16 18 21 dX3_pass_12 dX3_pass_15 dX3_pass_16 dX3_pass_18 dX3_pass_21 rfl rfl rfl rfl tw_A (tx := "minutes out of range") (by decide +kernel) ⟨by decide, by decide, rfl, rfl⟩
  · refine v_iload_n (i := 1) h 5 6 dX3_pass_5 rfl rfl ld1 ?_
    refine v_sipush (v := 500) h 6 9 dX3_pass_6 rfl (by decide) ?_
    refine v_icmp_le h 9 12 22 dX3_pass_9 rfl (by decide) (fun h9 => absurd (z.resolve_left h2) (le_nlt h9)) (fun h9 => ?_)
    exact v_throw h f hE 12 15 16 18 21 dX3_pass_12 dX3_pass_15 dX3_pass_16 dX3_pass_18 dX3_pass_21 rfl rfl rfl rfl tw_A (tx := "minutes out of range") (by decide +kernel) ⟨by decide, by decide, rfl, rfl⟩

set_option maxRecDepth 100000 in
set_option maxHeartbeats 4000000 in
theorem x_pass2 {E : EE} (hE : E.1.stackTraces = false) {D : Nat} {S0 S1 : St} {Sv : Nat → St} {sc se tl : Int32} {tx : St} {w : Wo} {x : Int32} (y1 : ¬ x < 1) (y2 : ¬ 500 < x) (z : ¬ S0 9 + x ≤ 5000) : Cthr E mX3_pass (dl E D S0 S1 Sv sc se tl tx w) [.ref D, .int x] xS := by
  refine Cthr.of RX3 rfl (by decide) [some (.ref D), some (.int x), none, none] (Nat.le_of_ble_eq_true rfl) rfl (fun Γ h f hmn => ?_)
  refine v_iload_n (i := 1) h 0 1 dX3_pass_0 rfl rfl ld1 ?_
  refine v_iconst (v := 1) h 1 2 dX3_pass_1 rfl (by decide) ?_
  refine v_icmp_lt h 2 5 12 dX3_pass_2 rfl (by decide) (fun h2 => absurd h2 y1) (fun h2 => ?_)
  refine v_iload_n (i := 1) h 5 6 dX3_pass_5 rfl rfl ld1 ?_
  refine v_sipush (v := 500) h 6 9 dX3_pass_6 rfl (by decide) ?_
  refine v_icmp_le h 9 12 22 dX3_pass_9 rfl (by decide) (fun h9 => ?_) (fun h9 => absurd (nlt_le y2) h9)
  refine v_aload_n (i := 0) h 22 23 dX3_pass_22 rfl rfl ld0 ?_
  refine v_get h 23 26 dX3_pass_23 rfl fo_X3_10 dl_dr rfl ?_
  refine v_get h 26 29 dX3_pass_26 rfl fo_X3_124 dl_h0.ln rfl ?_
  refine v_iload_n (i := 1) h 29 30 dX3_pass_29 rfl rfl ld1 ?_
  refine v_iadd h 30 31 dX3_pass_30 rfl ?_
  refine v_sipush (v := 5000) h 31 34 dX3_pass_31 rfl (by decide) ?_
  refine v_icmp_le h 34 37 47 dX3_pass_34 rfl (by decide) (fun h34 => absurd h34 z) (fun h34 => ?_)
  exact v_throw h f hE 37 40 41 43 46 dX3_pass_37 dX3_pass_40 dX3_pass_41 dX3_pass_43 dX3_pass_46 rfl rfl rfl rfl tw_S (tx := "the minute would be too great") (by decide +kernel) ⟨by decide, by decide, rfl, rfl⟩

set_option maxRecDepth 100000 in
set_option maxHeartbeats 4000000 in
theorem x_chair1 {E : EE} (hE : E.1.stackTraces = false) {D : Nat} {S0 S1 : St} {Sv : Nat → St} {sc se tl : Int32} {tx : St} {w : Wo} {i x : Int32} (z : i < 0 ∨ S0 7 ≤ i) : Cthr E mX3_chair (dl E D S0 S1 Sv sc se tl tx w) [.ref D, .int i, .int x] xI := by
  refine Cthr.of RX3 rfl (by decide) [some (.ref D), some (.int i), some (.int x), none] (Nat.le_of_ble_eq_true rfl) rfl (fun Γ h f hmn => ?_)
  refine v_aload_n (i := 0) h 0 1 dX3_chair_0 rfl rfl ld0 ?_
  refine v_get h 1 4 dX3_chair_1 rfl fo_X3_10 dl_dr rfl ?_
  refine v_iload_n (i := 1) h 4 5 dX3_chair_4 rfl rfl ld1 ?_
  refine v_callV1 h 5 8 dX3_chair_5 rfl cb_X1_chairAt cv_X1_chairAt dl_h0.ln lk_X3_89 (rok (by decide) (by decide)) ⟨rfl, rfl⟩ ⟨Nat.zero_le _, Nat.zero_le _⟩ (Cd.d0 (k_chairNone z)) rfl rfl (Nat.le_of_ble_eq_true rfl) ?_
  refine v_astore_nN (i := 3) h 8 9 dX3_chair_8 rfl rfl (by decide) (so3 rfl) ?_
  refine v_aload_nN (i := 3) h 9 10 dX3_chair_9 rfl rfl ld3 ?_
  refine v_ifnonnullN h 10 13 dX3_chair_10 rfl ?_
  exact v_throw h f hE 13 16 17 19 22 dX3_chair_13 dX3_chair_16 dX3_chair_17 dX3_chair_19 dX3_chair_22 rfl rfl rfl rfl tw_I (tx := "no such chair") (by decide +kernel) ⟨by decide, by decide, rfl, rfl⟩

set_option maxRecDepth 100000 in
set_option maxHeartbeats 4000000 in
theorem x_chair2 {E : EE} (hE : E.1.stackTraces = false) {D : Nat} {S0 S1 : St} {Sv : Nat → St} {sc se tl : Int32} {tx : St} {w : Wo} {sp nc nt ne m : Nat} (hI : Inv S0 sp nc nt ne m) {c : Nat} (hc : c < nc) {x : Int32} (z : x < 0 ∨ 8 < x) : Cthr E mX3_chair (dl E D S0 S1 Sv sc se tl tx w) [.ref D, .int (nI c), .int x] xA := by
  refine Cthr.of RX3 rfl (by decide) [some (.ref D), some (.int (nI c)), some (.int x), none] (Nat.le_of_ble_eq_true rfl) rfl (fun Γ h f hmn => ?_)
  have hn14 := hI.n14
  have hc14 : c < 14 := by omega
  refine v_aload_n (i := 0) h 0 1 dX3_chair_0 rfl rfl ld0 ?_
  refine v_get h 1 4 dX3_chair_1 rfl fo_X3_10 dl_dr rfl ?_
  refine v_iload_n (i := 1) h 4 5 dX3_chair_4 rfl rfl ld1 ?_
  refine v_callV1 h 5 8 dX3_chair_5 rfl cb_X1_chairAt cv_X1_chairAt dl_h0.ln lk_X3_89 (rok (by decide) (by decide)) ⟨rfl, rfl⟩ ⟨Nat.zero_le _, Nat.zero_le _⟩ (Cd.d0 (k_chairS hI.c7 hI.n14 (c := c) (by omega))) rfl rfl (Nat.le_of_ble_eq_true rfl) ?_
  refine v_astore_n (i := 3) h 8 9 dX3_chair_8 rfl rfl (by decide) (so3 rfl) ?_
  refine v_aload_n (i := 3) h 9 10 dX3_chair_9 rfl rfl ld3 ?_
  refine v_ifnonnull h 10 23 dX3_chair_10 (by decide) ?_
  refine v_iload_n (i := 2) h 23 24 dX3_chair_23 rfl rfl ld2 ?_
  refine v_if_lt h 24 27 33 dX3_chair_24 rfl (by decide) (fun h24 => ?_) (fun h24 => ?_)
  · exact v_throw h f hE 33 36 37 39 42 dX3_chair_33 dX3_chair_36 dX3_chair_37 dX3_chair_39 dX3_chair_42 rfl rfl rfl rfl tw_A (tx := "what is out of range") (by decide +kernel) ⟨by decide, by decide, rfl, rfl⟩
  · refine v_iload_n (i := 2) h 27 28 dX3_chair_27 rfl rfl ld2 ?_
    refine v_bipush (v := 9) h 28 30 dX3_chair_28 rfl (by decide) ?_
    refine v_icmp_lt h 30 33 43 dX3_chair_30 rfl (by decide) (fun h30 => absurd h30 (gap (by decide) (z.resolve_left h24))) (fun h30 => ?_)
    exact v_throw h f hE 33 36 37 39 42 dX3_chair_33 dX3_chair_36 dX3_chair_37 dX3_chair_39 dX3_chair_42 rfl rfl rfl rfl tw_A (tx := "what is out of range") (by decide +kernel) ⟨by decide, by decide, rfl, rfl⟩

set_option maxRecDepth 100000 in
set_option maxHeartbeats 4000000 in
theorem x_team1 {E : EE} (hE : E.1.stackTraces = false) {D : Nat} {S0 S1 : St} {Sv : Nat → St} {sc se tl : Int32} {tx : St} {w : Wo} {i x : Int32} (z : i < 0 ∨ S0 8 ≤ i) : Cthr E mX3_team (dl E D S0 S1 Sv sc se tl tx w) [.ref D, .int i, .int x] xI := by
  refine Cthr.of RX3 rfl (by decide) [some (.ref D), some (.int i), some (.int x), none] (Nat.le_of_ble_eq_true rfl) rfl (fun Γ h f hmn => ?_)
  refine v_aload_n (i := 0) h 0 1 dX3_team_0 rfl rfl ld0 ?_
  refine v_get h 1 4 dX3_team_1 rfl fo_X3_10 dl_dr rfl ?_
  refine v_iload_n (i := 1) h 4 5 dX3_team_4 rfl rfl ld1 ?_
  refine v_callV1 h 5 8 dX3_team_5 rfl cb_X1_teamAt cv_X1_teamAt dl_h0.ln lk_X3_107 (rok (by decide) (by decide)) ⟨rfl, rfl⟩ ⟨Nat.zero_le _, Nat.zero_le _⟩ (Cd.d0 (k_teamNone z)) rfl rfl (Nat.le_of_ble_eq_true rfl) ?_
  refine v_astore_nN (i := 3) h 8 9 dX3_team_8 rfl rfl (by decide) (so3 rfl) ?_
  refine v_aload_nN (i := 3) h 9 10 dX3_team_9 rfl rfl ld3 ?_
  refine v_ifnonnullN h 10 13 dX3_team_10 rfl ?_
  exact v_throw h f hE 13 16 17 19 22 dX3_team_13 dX3_team_16 dX3_team_17 dX3_team_19 dX3_team_22 rfl rfl rfl rfl tw_I (tx := "no such team") (by decide +kernel) ⟨by decide, by decide, rfl, rfl⟩

set_option maxRecDepth 100000 in
set_option maxHeartbeats 4000000 in
theorem x_team2 {E : EE} (hE : E.1.stackTraces = false) {D : Nat} {S0 S1 : St} {Sv : Nat → St} {sc se tl : Int32} {tx : St} {w : Wo} {sp nc nt ne m : Nat} (hI : Inv S0 sp nc nt ne m) {t : Nat} (ht : t < nt) {x : Int32} (z : x < 0 ∨ 7 < x) : Cthr E mX3_team (dl E D S0 S1 Sv sc se tl tx w) [.ref D, .int (nI t), .int x] xA := by
  refine Cthr.of RX3 rfl (by decide) [some (.ref D), some (.int (nI t)), some (.int x), none] (Nat.le_of_ble_eq_true rfl) rfl (fun Γ h f hmn => ?_)
  have hn4 := hI.n4
  have ht4 : t < 4 := by omega
  refine v_aload_n (i := 0) h 0 1 dX3_team_0 rfl rfl ld0 ?_
  refine v_get h 1 4 dX3_team_1 rfl fo_X3_10 dl_dr rfl ?_
  refine v_iload_n (i := 1) h 4 5 dX3_team_4 rfl rfl ld1 ?_
  refine v_callV1 h 5 8 dX3_team_5 rfl cb_X1_teamAt cv_X1_teamAt dl_h0.ln lk_X3_107 (rok (by decide) (by decide)) ⟨rfl, rfl⟩ ⟨Nat.zero_le _, Nat.zero_le _⟩ (Cd.d0 (k_teamS hI.c8 hI.n4 (c := t) (by omega))) rfl rfl (Nat.le_of_ble_eq_true rfl) ?_
  refine v_astore_n (i := 3) h 8 9 dX3_team_8 rfl rfl (by decide) (so3 rfl) ?_
  refine v_aload_n (i := 3) h 9 10 dX3_team_9 rfl rfl ld3 ?_
  refine v_ifnonnull h 10 23 dX3_team_10 (by decide) ?_
  refine v_iload_n (i := 2) h 23 24 dX3_team_23 rfl rfl ld2 ?_
  refine v_if_lt h 24 27 33 dX3_team_24 rfl (by decide) (fun h24 => ?_) (fun h24 => ?_)
  · exact v_throw h f hE 33 36 37 39 42 dX3_team_33 dX3_team_36 dX3_team_37 dX3_team_39 dX3_team_42 rfl rfl rfl rfl tw_A (tx := "what is out of range") (by decide +kernel) ⟨by decide, by decide, rfl, rfl⟩
  · refine v_iload_n (i := 2) h 27 28 dX3_team_27 rfl rfl ld2 ?_
    refine v_bipush (v := 8) h 28 30 dX3_team_28 rfl (by decide) ?_
    refine v_icmp_lt h 30 33 43 dX3_team_30 rfl (by decide) (fun h30 => absurd h30 (gap (by decide) (z.resolve_left h24))) (fun h30 => ?_)
    exact v_throw h f hE 33 36 37 39 42 dX3_team_33 dX3_team_36 dX3_team_37 dX3_team_39 dX3_team_42 rfl rfl rfl rfl tw_A (tx := "what is out of range") (by decide +kernel) ⟨by decide, by decide, rfl, rfl⟩

set_option maxRecDepth 100000 in
set_option maxHeartbeats 4000000 in
theorem x_value1 {E : EE} (hE : E.1.stackTraces = false) {D : Nat} {S0 S1 : St} {Sv : Nat → St} {sc se tl : Int32} {tx : St} {w : Wo} {x : Int32} (z : x < 0 ∨ 11 < x) : Cthr E mX3_value (dl E D S0 S1 Sv sc se tl tx w) [.ref D, .int x] xA := by
  refine Cthr.of RX3 rfl (by decide) [some (.ref D), some (.int x)] (Nat.le_of_ble_eq_true rfl) rfl (fun Γ h f hmn => ?_)
  refine v_iload_n (i := 1) h 0 1 dX3_value_0 rfl rfl ld1 ?_
  refine v_if_lt h 1 4 10 dX3_value_1 rfl (by decide) (fun h1 => ?_) (fun h1 => ?_)
  · exact v_throw h f hE 10 13 14 16 19 dX3_value_10 dX3_value_13 dX3_value_14 dX3_value_16 dX3_value_19 rfl rfl rfl rfl tw_A (tx := "what is out of range") (by decide +kernel) ⟨by decide, by decide, rfl, rfl⟩
  · refine v_iload_n (i := 1) h 4 5 dX3_value_4 rfl rfl ld1 ?_
    refine v_bipush (v := 12) h 5 7 dX3_value_5 rfl (by decide) ?_
    refine v_icmp_lt h 7 10 20 dX3_value_7 rfl (by decide) (fun h7 => absurd h7 (gap (by decide) (z.resolve_left h1))) (fun h7 => ?_)
    exact v_throw h f hE 10 13 14 16 19 dX3_value_10 dX3_value_13 dX3_value_14 dX3_value_16 dX3_value_19 rfl rfl rfl rfl tw_A (tx := "what is out of range") (by decide +kernel) ⟨by decide, by decide, rfl, rfl⟩

set_option maxRecDepth 100000 in
set_option maxHeartbeats 4000000 in
theorem x_way1 {E : EE} (hE : E.1.stackTraces = false) {D : Nat} {S0 S1 : St} {Sv : Nat → St} {sc se tl : Int32} {tx : St} {w : Wo} {x y : Int32} (z : x < 0 ∨ S0 0 ≤ x) : Cthr E mX3_way (dl E D S0 S1 Sv sc se tl tx w) [.ref D, .int x, .int y] xI := by
  refine Cthr.of RX3 rfl (by decide) [some (.ref D), some (.int x), some (.int y)] (Nat.le_of_ble_eq_true rfl) rfl (fun Γ h f hmn => ?_)
  refine v_aload_n (i := 0) h 0 1 dX3_way_0 rfl rfl ld0 ?_
  refine v_get h 1 4 dX3_way_1 rfl fo_X3_10 dl_dr rfl ?_
  refine v_iload_n (i := 1) h 4 5 dX3_way_4 rfl rfl ld1 ?_
  refine v_callV1 h 5 8 dX3_way_5 rfl cb_X1_hasSpan cv_X1_hasSpan dl_h0.ln lk_X3_31 (rok (by decide) (by decide)) ⟨rfl, rfl⟩ ⟨Nat.zero_le _, Nat.zero_le _⟩ (Cd.d0 (c_spanN z)) rfl rfl (Nat.le_of_ble_eq_true rfl) ?_
  refine v_if_eq h 8 11 22 dX3_way_8 rfl (by decide) (fun h8 => ?_) (fun h8 => absurd (by decide) h8)
  exact v_throw h f hE 22 25 26 28 31 dX3_way_22 dX3_way_25 dX3_way_26 dX3_way_28 dX3_way_31 rfl rfl rfl rfl tw_I (tx := "no such span") (by decide +kernel) ⟨by decide, by decide, rfl, rfl⟩

set_option maxRecDepth 100000 in
set_option maxHeartbeats 4000000 in
theorem x_way1b {E : EE} (hE : E.1.stackTraces = false) {D : Nat} {S0 S1 : St} {Sv : Nat → St} {sc se tl : Int32} {tx : St} {w : Wo} {x y : Int32} (y1 : ¬ x < 0) (y2 : ¬ S0 0 ≤ x) (z : y < 0 ∨ S0 0 ≤ y) : Cthr E mX3_way (dl E D S0 S1 Sv sc se tl tx w) [.ref D, .int x, .int y] xI := by
  refine Cthr.of RX3 rfl (by decide) [some (.ref D), some (.int x), some (.int y)] (Nat.le_of_ble_eq_true rfl) rfl (fun Γ h f hmn => ?_)
  refine v_aload_n (i := 0) h 0 1 dX3_way_0 rfl rfl ld0 ?_
  refine v_get h 1 4 dX3_way_1 rfl fo_X3_10 dl_dr rfl ?_
  refine v_iload_n (i := 1) h 4 5 dX3_way_4 rfl rfl ld1 ?_
  refine v_callV1 h 5 8 dX3_way_5 rfl cb_X1_hasSpan cv_X1_hasSpan dl_h0.ln lk_X3_31 (rok (by decide) (by decide)) ⟨rfl, rfl⟩ ⟨Nat.zero_le _, Nat.zero_le _⟩ (Cd.d0 (c_spanY y1 y2)) rfl rfl (Nat.le_of_ble_eq_true rfl) ?_
  refine v_if_eq h 8 11 22 dX3_way_8 rfl (by decide) (fun h8 => absurd h8 (by decide)) (fun h8 => ?_)
  refine v_aload_n (i := 0) h 11 12 dX3_way_11 rfl rfl ld0 ?_
  refine v_get h 12 15 dX3_way_12 rfl fo_X3_10 dl_dr rfl ?_
  refine v_iload_n (i := 2) h 15 16 dX3_way_15 rfl rfl ld2 ?_
  refine v_callV1 h 16 19 dX3_way_16 rfl cb_X1_hasSpan cv_X1_hasSpan dl_h0.ln lk_X3_31 (rok (by decide) (by decide)) ⟨rfl, rfl⟩ ⟨Nat.zero_le _, Nat.zero_le _⟩ (Cd.d0 (c_spanN z)) rfl rfl (Nat.le_of_ble_eq_true rfl) ?_
  refine v_if_ne h 19 22 32 dX3_way_19 rfl (by decide) (fun h19 => absurd rfl h19) (fun h19 => ?_)
  exact v_throw h f hE 22 25 26 28 31 dX3_way_22 dX3_way_25 dX3_way_26 dX3_way_28 dX3_way_31 rfl rfl rfl rfl tw_I (tx := "no such span") (by decide +kernel) ⟨by decide, by decide, rfl, rfl⟩

set_option maxRecDepth 100000 in
set_option maxHeartbeats 4000000 in
theorem x_work1 {E : EE} (hE : E.1.stackTraces = false) {D : Nat} {S0 S1 : St} {Sv : Nat → St} {sc se tl : Int32} {tx : St} {w : Wo} {x y : Int32} (z1 : x < 0 ∨ S0 7 ≤ x) (z : y < 0 ∨ S0 8 ≤ y) : Cthr E mX3_work (dl E D S0 S1 Sv sc se tl tx w) [.ref D, .int x, .int y] xI := by
  refine Cthr.of RX3 rfl (by decide) [some (.ref D), some (.int x), some (.int y), none, none] (Nat.le_of_ble_eq_true rfl) rfl (fun Γ h f hmn => ?_)
  refine v_aload_n (i := 0) h 0 1 dX3_work_0 rfl rfl ld0 ?_
  refine v_get h 1 4 dX3_work_1 rfl fo_X3_10 dl_dr rfl ?_
  refine v_iload_n (i := 1) h 4 5 dX3_work_4 rfl rfl ld1 ?_
  refine v_callV1 h 5 8 dX3_work_5 rfl cb_X1_chairAt cv_X1_chairAt dl_h0.ln lk_X3_89 (rok (by decide) (by decide)) ⟨rfl, rfl⟩ ⟨Nat.zero_le _, Nat.zero_le _⟩ (Cd.d0 (k_chairNone z1)) rfl rfl (Nat.le_of_ble_eq_true rfl) ?_
  refine v_astore_nN (i := 3) h 8 9 dX3_work_8 rfl rfl (by decide) (so3 rfl) ?_
  refine v_aload_n (i := 0) h 9 10 dX3_work_9 rfl rfl ld0 ?_
  refine v_get h 10 13 dX3_work_10 rfl fo_X3_10 dl_dr rfl ?_
  refine v_iload_n (i := 2) h 13 14 dX3_work_13 rfl rfl ld2 ?_
  refine v_callV1 h 14 17 dX3_work_14 rfl cb_X1_teamAt cv_X1_teamAt dl_h0.ln lk_X3_107 (rok (by decide) (by decide)) ⟨rfl, rfl⟩ ⟨Nat.zero_le _, Nat.zero_le _⟩ (Cd.d0 (k_teamNone z)) rfl rfl (Nat.le_of_ble_eq_true rfl) ?_
  refine v_astoreN (i := 4) h 17 19 dX3_work_17 rfl (by decide) (so4 rfl) ?_
  refine v_aload_nN (i := 3) h 19 20 dX3_work_19 rfl rfl ld3 ?_
  refine v_ifnullN h 20 28 dX3_work_20 (by decide) ?_
  exact v_throw h f hE 28 31 32 34 37 dX3_work_28 dX3_work_31 dX3_work_32 dX3_work_34 dX3_work_37 rfl rfl rfl rfl tw_I (tx := "no such chair or team") (by decide +kernel) ⟨by decide, by decide, rfl, rfl⟩

set_option maxRecDepth 100000 in
set_option maxHeartbeats 4000000 in
theorem x_work1a {E : EE} (hE : E.1.stackTraces = false) {D : Nat} {S0 S1 : St} {Sv : Nat → St} {sc se tl : Int32} {tx : St} {w : Wo} {sp nc nt ne m : Nat} (hI : Inv S0 sp nc nt ne m) {t : Nat} (ht : t < nt) {x : Int32} (z : x < 0 ∨ S0 7 ≤ x) : Cthr E mX3_work (dl E D S0 S1 Sv sc se tl tx w) [.ref D, .int x, .int (nI t)] xI := by
  refine Cthr.of RX3 rfl (by decide) [some (.ref D), some (.int x), some (.int (nI t)), none, none] (Nat.le_of_ble_eq_true rfl) rfl (fun Γ h f hmn => ?_)
  have hn4 := hI.n4
  have ht4 : t < 4 := by omega
  refine v_aload_n (i := 0) h 0 1 dX3_work_0 rfl rfl ld0 ?_
  refine v_get h 1 4 dX3_work_1 rfl fo_X3_10 dl_dr rfl ?_
  refine v_iload_n (i := 1) h 4 5 dX3_work_4 rfl rfl ld1 ?_
  refine v_callV1 h 5 8 dX3_work_5 rfl cb_X1_chairAt cv_X1_chairAt dl_h0.ln lk_X3_89 (rok (by decide) (by decide)) ⟨rfl, rfl⟩ ⟨Nat.zero_le _, Nat.zero_le _⟩ (Cd.d0 (k_chairNone z)) rfl rfl (Nat.le_of_ble_eq_true rfl) ?_
  refine v_astore_nN (i := 3) h 8 9 dX3_work_8 rfl rfl (by decide) (so3 rfl) ?_
  refine v_aload_n (i := 0) h 9 10 dX3_work_9 rfl rfl ld0 ?_
  refine v_get h 10 13 dX3_work_10 rfl fo_X3_10 dl_dr rfl ?_
  refine v_iload_n (i := 2) h 13 14 dX3_work_13 rfl rfl ld2 ?_
  refine v_callV1 h 14 17 dX3_work_14 rfl cb_X1_teamAt cv_X1_teamAt dl_h0.ln lk_X3_107 (rok (by decide) (by decide)) ⟨rfl, rfl⟩ ⟨Nat.zero_le _, Nat.zero_le _⟩ (Cd.d0 (k_teamS hI.c8 hI.n4 (c := t) (by omega))) rfl rfl (Nat.le_of_ble_eq_true rfl) ?_
  refine v_astore (i := 4) h 17 19 dX3_work_17 rfl (by decide) (so4 rfl) ?_
  refine v_aload_nN (i := 3) h 19 20 dX3_work_19 rfl rfl ld3 ?_
  refine v_ifnullN h 20 28 dX3_work_20 (by decide) ?_
  exact v_throw h f hE 28 31 32 34 37 dX3_work_28 dX3_work_31 dX3_work_32 dX3_work_34 dX3_work_37 rfl rfl rfl rfl tw_I (tx := "no such chair or team") (by decide +kernel) ⟨by decide, by decide, rfl, rfl⟩

set_option maxRecDepth 100000 in
set_option maxHeartbeats 4000000 in
theorem x_work1b {E : EE} (hE : E.1.stackTraces = false) {D : Nat} {S0 S1 : St} {Sv : Nat → St} {sc se tl : Int32} {tx : St} {w : Wo} {sp nc nt ne m : Nat} (hI : Inv S0 sp nc nt ne m) {c : Nat} (hc : c < nc) {y : Int32} (z : y < 0 ∨ S0 8 ≤ y) : Cthr E mX3_work (dl E D S0 S1 Sv sc se tl tx w) [.ref D, .int (nI c), .int y] xI := by
  refine Cthr.of RX3 rfl (by decide) [some (.ref D), some (.int (nI c)), some (.int y), none, none] (Nat.le_of_ble_eq_true rfl) rfl (fun Γ h f hmn => ?_)
  have hn14 := hI.n14
  have hc14 : c < 14 := by omega
  refine v_aload_n (i := 0) h 0 1 dX3_work_0 rfl rfl ld0 ?_
  refine v_get h 1 4 dX3_work_1 rfl fo_X3_10 dl_dr rfl ?_
  refine v_iload_n (i := 1) h 4 5 dX3_work_4 rfl rfl ld1 ?_
  refine v_callV1 h 5 8 dX3_work_5 rfl cb_X1_chairAt cv_X1_chairAt dl_h0.ln lk_X3_89 (rok (by decide) (by decide)) ⟨rfl, rfl⟩ ⟨Nat.zero_le _, Nat.zero_le _⟩ (Cd.d0 (k_chairS hI.c7 hI.n14 (c := c) (by omega))) rfl rfl (Nat.le_of_ble_eq_true rfl) ?_
  refine v_astore_n (i := 3) h 8 9 dX3_work_8 rfl rfl (by decide) (so3 rfl) ?_
  refine v_aload_n (i := 0) h 9 10 dX3_work_9 rfl rfl ld0 ?_
  refine v_get h 10 13 dX3_work_10 rfl fo_X3_10 dl_dr rfl ?_
  refine v_iload_n (i := 2) h 13 14 dX3_work_13 rfl rfl ld2 ?_
  refine v_callV1 h 14 17 dX3_work_14 rfl cb_X1_teamAt cv_X1_teamAt dl_h0.ln lk_X3_107 (rok (by decide) (by decide)) ⟨rfl, rfl⟩ ⟨Nat.zero_le _, Nat.zero_le _⟩ (Cd.d0 (k_teamNone z)) rfl rfl (Nat.le_of_ble_eq_true rfl) ?_
  refine v_astoreN (i := 4) h 17 19 dX3_work_17 rfl (by decide) (so4 rfl) ?_
  refine v_aload_n (i := 3) h 19 20 dX3_work_19 rfl rfl ld3 ?_
  refine v_ifnull h 20 23 dX3_work_20 rfl ?_
  refine v_aloadN (i := 4) h 23 25 dX3_work_23 rfl ld4 ?_
  refine v_ifnonnullN h 25 28 dX3_work_25 rfl ?_
  exact v_throw h f hE 28 31 32 34 37 dX3_work_28 dX3_work_31 dX3_work_32 dX3_work_34 dX3_work_37 rfl rfl rfl rfl tw_I (tx := "no such chair or team") (by decide +kernel) ⟨by decide, by decide, rfl, rfl⟩

set_option maxRecDepth 100000 in
set_option maxHeartbeats 4000000 in
theorem x_journal1 {E : EE} (hE : E.1.stackTraces = false) {D : Nat} {S0 S1 : St} {Sv : Nat → St} {sc se tl : Int32} {tx : St} {w : Wo} {x : Int32} (z : x < 0) : Cthr E mX3_journal (dl E D S0 S1 Sv sc se tl tx w) [.ref D, .int x] xI := by
  refine Cthr.of RX3 rfl (by decide) [some (.ref D), some (.int x)] (Nat.le_of_ble_eq_true rfl) rfl (fun Γ h f hmn => ?_)
  refine v_iload_n (i := 1) h 0 1 dX3_journal_0 rfl rfl ld1 ?_
  refine v_if_ge h 1 4 14 dX3_journal_1 rfl (by decide) (fun h1 => absurd z (le_nlt h1)) (fun h1 => ?_)
  exact v_throw h f hE 4 7 8 10 13 dX3_journal_4 dX3_journal_7 dX3_journal_8 dX3_journal_10 dX3_journal_13 rfl rfl rfl rfl tw_I (tx := "index is negative") (by decide +kernel) ⟨by decide, by decide, rfl, rfl⟩

set_option maxRecDepth 100000 in
set_option maxHeartbeats 4000000 in
theorem x_chosen1 {E : EE} (hE : E.1.stackTraces = false) {D : Nat} {S0 S1 : St} {Sv : Nat → St} {sc se tl : Int32} {tx : St} {w : Wo} {x : Int32} (z : x < 0 ∨ S0 0 ≤ x) : Cthr E mX3_chosen (dl E D S0 S1 Sv sc se tl tx w) [.ref D, .int x] xI := by
  refine Cthr.of RX3 rfl (by decide) [some (.ref D), some (.int x)] (Nat.le_of_ble_eq_true rfl) rfl (fun Γ h f hmn => ?_)
  refine v_aload_n (i := 0) h 0 1 dX3_chosen_0 rfl rfl ld0 ?_
  refine v_get h 1 4 dX3_chosen_1 rfl fo_X3_10 dl_dr rfl ?_
  refine v_iload_n (i := 1) h 4 5 dX3_chosen_4 rfl rfl ld1 ?_
  refine v_callV1 h 5 8 dX3_chosen_5 rfl cb_X1_hasSpan cv_X1_hasSpan dl_h0.ln lk_X3_31 (rok (by decide) (by decide)) ⟨rfl, rfl⟩ ⟨Nat.zero_le _, Nat.zero_le _⟩ (Cd.d0 (c_spanN z)) rfl rfl (Nat.le_of_ble_eq_true rfl) ?_
  refine v_if_ne h 8 11 21 dX3_chosen_8 rfl (by decide) (fun h8 => absurd rfl h8) (fun h8 => ?_)
  exact v_throw h f hE 11 14 15 17 20 dX3_chosen_11 dX3_chosen_14 dX3_chosen_15 dX3_chosen_17 dX3_chosen_20 rfl rfl rfl rfl tw_I (tx := "no such span") (by decide +kernel) ⟨by decide, by decide, rfl, rfl⟩
