/-! WHAT THE DRILL'S METHODS DO WHEN THEY DON'T THROW -/
theorem c_spanY {E : EE} {B : Nat} {S : St} {w : Wo} {i : Int32} (h1 : ¬ i < 0) (h2 : ¬ S 0 ≤ i) : Cd E mX1_hasSpan (pl E B S w) [.ref B, .int i] (some (.int 1)) (pl E B S w) := by
  have h := k_hasSpan (E := E) (B := B) (S := S) (w := w) i
  rw [if_neg h1, if_neg h2] at h
  exact h
theorem c_spanN {E : EE} {B : Nat} {S : St} {w : Wo} {i : Int32} (z : i < 0 ∨ S 0 ≤ i) : Cd E mX1_hasSpan (pl E B S w) [.ref B, .int i] (some (.int 0)) (pl E B S w) := by
  have h := k_hasSpan (E := E) (B := B) (S := S) (w := w) i
  by_cases q : i < 0
  · rw [if_pos q] at h; exact h
  · rw [if_neg q, if_pos (z.resolve_left q)] at h; exact h
theorem way_lt {sp : Nat} (h1 : 1 ≤ sp) (h2 : sp ≤ 7) {i : Int32} (h0 : ¬ i < 0) : (nI sp - 1 ≤ i) = (nI sp - 2 < i) := by
  have e1 : nI sp - 1 = nI (sp - 1) := pk_sub (a := sp) (b := 1) (by omega)
  by_cases q : sp = 1
  · subst q
    refine propext ⟨fun _ => ?_, fun _ => ?_⟩
    · exact Int32.lt_of_lt_of_le (show nI 1 - 2 < 0 by decide) (nlt_le h0)
    · rw [e1]; exact nlt_le h0
  · have e2 : nI sp - 2 = nI (sp - 2) := pk_sub (a := sp) (b := 2) (by omega)
    rw [e1, e2, Int32.le_iff_toInt_le, Int32.lt_iff_toInt_lt, nI_toInt (by omega), nI_toInt (by omega)]
    exact propext (by omega)
theorem c_wayY {E : EE} {B : Nat} {S : St} {w : Wo} {i : Int32} {sp : Nat} (hs1 : 1 ≤ sp) (hs2 : sp ≤ 7) (e0 : S 0 = nI sp) (h1 : ¬ i < 0) (h2 : ¬ S 0 - 2 < i) : Cd E mX1_hasWay (pl E B S w) [.ref B, .int i] (some (.int 1)) (pl E B S w) := by
  have h := k_hasWay (E := E) (B := B) (S := S) (w := w) i
  rw [if_neg h1, if_neg (fun q => h2 (by rw [e0] at q ⊢; rwa [way_lt hs1 hs2 h1] at q))] at h
  exact h
theorem c_wayN {E : EE} {B : Nat} {S : St} {w : Wo} {i : Int32} {sp : Nat} (hs1 : 1 ≤ sp) (hs2 : sp ≤ 7) (e0 : S 0 = nI sp) (z : i < 0 ∨ S 0 - 2 < i) : Cd E mX1_hasWay (pl E B S w) [.ref B, .int i] (some (.int 0)) (pl E B S w) := by
  have h := k_hasWay (E := E) (B := B) (S := S) (w := w) i
  by_cases q : i < 0
  · rw [if_pos q] at h; exact h
  · rw [if_neg q, if_pos (by have z := z.resolve_left q; rw [e0] at z ⊢; rwa [way_lt hs1 hs2 q])] at h; exact h
set_option maxRecDepth 100000 in
set_option maxHeartbeats 4000000 in
theorem c_addChair {E : EE} {D : Nat} {S0 S1 : St} {Sv : Nat → St} {tl : Int32} {tx : St} {w : Wo} {e ks : Nat} (he : e < 4) (hks : ks ≤ 4) {sp nc nt ne m : Nat} (hI : Inv S0 sp nc nt ne m) {sq ri co ch : Int32} (y1 : ¬ sq < 0) (y2 : ¬ S0 0 ≤ sq) (y3 : ¬ ri < 1) (y4 : ¬ 4 < ri) (y5 : ¬ co < 0) (y6 : ¬ 20 < co) (hm : nc < 14) (hz : ch = 0 ∨ ch = 1) : Cd E mX3z_addChair (dl E D S0 S1 Sv (nI ks) (nI e) tl tx w) [.ref D, .int sq, .int ri, .int co, .int ch] (some (.int (nI nc))) (dl E D (hangS (upd S0 7 (nI (nc + 1))) nc sq ri co ch) S1 (va_up Sv e (cpS (Sv e) S0 nc nt)) (nI (min 4 (ks + 1))) (nI ((e + 1) % 4)) tl tx w) := by
  refine Cd.of RX3 rfl (by decide) [some (.ref D), some (.int sq), some (.int ri), some (.int co), some (.int ch)] (Nat.le_of_ble_eq_true rfl) rfl (fun Γ h f hmn => ?_)
  refine v_aload_n (i := 0) h 0 1 dX3_addChair_0 rfl rfl ld0 ?_
  refine v_get h 1 4 dX3_addChair_1 rfl fo_X3_10 dl_dr rfl ?_
  refine v_iload_n (i := 1) h 4 5 dX3_addChair_4 rfl rfl ld1 ?_
  refine v_callV1 h 5 8 dX3_addChair_5 rfl cb_X1_hasSpan cv_X1_hasSpan dl_h0.ln lk_X3_31 (rok (by decide) (by decide)) ⟨rfl, rfl⟩ ⟨Nat.zero_le _, Nat.zero_le _⟩ (Cd.d0 (c_spanY y1 y2)) rfl rfl (Nat.le_of_ble_eq_true rfl) ?_
  refine v_if_ne h 8 11 21 dX3_addChair_8 rfl (by decide) (fun h8 => ?_) (fun h8 => absurd h8 (by decide))
  refine v_iload_n (i := 2) h 21 22 dX3_addChair_21 rfl rfl ld2 ?_
  refine v_iconst (v := 1) h 22 23 dX3_addChair_22 rfl (by decide) ?_
  refine v_icmp_lt h 23 26 41 dX3_addChair_23 rfl (by decide) (fun h23 => absurd h23 y3) (fun h23 => ?_)
  refine v_iload_n (i := 2) h 26 27 dX3_addChair_26 rfl rfl ld2 ?_
  refine v_iconst (v := 4) h 27 28 dX3_addChair_27 rfl (by decide) ?_
  refine v_icmp_gt h 28 31 41 dX3_addChair_28 rfl (by decide) (fun h28 => absurd h28 y4) (fun h28 => ?_)
  refine v_iload_n (i := 3) h 31 32 dX3_addChair_31 rfl rfl ld3 ?_
  refine v_if_lt h 32 35 41 dX3_addChair_32 rfl (by decide) (fun h32 => absurd h32 y5) (fun h32 => ?_)
  refine v_iload_n (i := 3) h 35 36 dX3_addChair_35 rfl rfl ld3 ?_
  refine v_bipush (v := 20) h 36 38 dX3_addChair_36 rfl (by decide) ?_
  refine v_icmp_le h 38 41 51 dX3_addChair_38 rfl (by decide) (fun h38 => ?_) (fun h38 => absurd (nlt_le y6) h38)
  refine v_aload_n (i := 0) h 51 52 dX3_addChair_51 rfl rfl ld0 ?_
  refine v_get h 52 55 dX3_addChair_52 rfl fo_X3_10 dl_dr rfl ?_
  refine v_get h 55 58 dX3_addChair_55 rfl fo_X3_47 dl_h0.ln rfl ?_
  refine v_bipush (v := 14) h 58 60 dX3_addChair_58 rfl (by decide) ?_
  refine v_icmp_lt h 60 63 73 dX3_addChair_60 rfl (by decide) (fun h60 => ?_) (fun h60 => absurd (by rw [hI.c7]; exact nI_lt (b := 14) hm (by decide)) h60)
  refine v_aload_n (i := 0) h 73 74 dX3_addChair_73 rfl rfl ld0 ?_
  refine v_callV0 h 74 77 dX3_addChair_74 rfl cb_X3_save cv_X3_save dl_dr lk_X3_56 (rok (by decide) (by decide)) ⟨rfl, rfl⟩ ⟨Nat.zero_le _, Nat.zero_le _⟩ (k_save he hks hI) rfl rfl (Nat.le_of_ble_eq_true rfl) ?_
  refine v_aload_n (i := 0) h 77 78 dX3_addChair_77 rfl rfl ld0 ?_
  refine v_get h 78 81 dX3_addChair_78 rfl fo_X3_10 dl_dr rfl ?_
  refine v_iload_n (i := 1) h 81 82 dX3_addChair_81 rfl rfl ld1 ?_
  refine v_iload_n (i := 2) h 82 83 dX3_addChair_82 rfl rfl ld2 ?_
  refine v_iload_n (i := 3) h 83 84 dX3_addChair_83 rfl rfl ld3 ?_
  refine v_iload (i := 4) h 84 86 dX3_addChair_84 rfl ld4 ?_
  refine v_callV1 h 86 89 dX3_addChair_86 rfl cb_X1_hangChair cv_X1_hangChair dl_h0.ln lk_X3_59 (rok (by decide) (by decide)) ⟨rfl, rfl⟩ ⟨Nat.zero_le _, Nat.zero_le _⟩ (Cd.d0 (k_hangChair hI.c7 hm sq ri co ch hz)) rfl rfl (Nat.le_of_ble_eq_true rfl) ?_
  exact v_iret h 89 f dX3_addChair_89 rfl (Nat.zero_le _) (Nat.zero_le _) rfl rfl

set_option maxRecDepth 100000 in
set_option maxHeartbeats 4000000 in
theorem c_addTeam {E : EE} {D : Nat} {S0 S1 : St} {Sv : Nat → St} {tl : Int32} {tx : St} {w : Wo} {e ks : Nat} (he : e < 4) (hks : ks ≤ 4) {sp nc nt ne m : Nat} (hI : Inv S0 sp nc nt ne m) {sq ti : Int32} (y1 : ¬ sq < 0) (y2 : ¬ S0 0 ≤ sq) (y3 : ¬ ti < 0) (y4 : ¬ 30 < ti) (hm : nt < 4) : Cd E mX3z_addTeam (dl E D S0 S1 Sv (nI ks) (nI e) tl tx w) [.ref D, .int sq, .int ti] (some (.int (nI nt))) (dl E D (standS (upd S0 8 (nI (nt + 1))) nt sq ti) S1 (va_up Sv e (cpS (Sv e) S0 nc nt)) (nI (min 4 (ks + 1))) (nI ((e + 1) % 4)) tl tx w) := by
  refine Cd.of RX3 rfl (by decide) [some (.ref D), some (.int sq), some (.int ti)] (Nat.le_of_ble_eq_true rfl) rfl (fun Γ h f hmn => ?_)
  refine v_aload_n (i := 0) h 0 1 dX3_addTeam_0 rfl rfl ld0 ?_
  refine v_get h 1 4 dX3_addTeam_1 rfl fo_X3_10 dl_dr rfl ?_
  refine v_iload_n (i := 1) h 4 5 dX3_addTeam_4 rfl rfl ld1 ?_
  refine v_callV1 h 5 8 dX3_addTeam_5 rfl cb_X1_hasSpan cv_X1_hasSpan dl_h0.ln lk_X3_31 (rok (by decide) (by decide)) ⟨rfl, rfl⟩ ⟨Nat.zero_le _, Nat.zero_le _⟩ (Cd.d0 (c_spanY y1 y2)) rfl rfl (Nat.le_of_ble_eq_true rfl) ?_
  refine v_if_ne h 8 11 21 dX3_addTeam_8 rfl (by decide) (fun h8 => ?_) (fun h8 => absurd h8 (by decide))
  refine v_iload_n (i := 2) h 21 22 dX3_addTeam_21 rfl rfl ld2 ?_
  refine v_if_lt h 22 25 31 dX3_addTeam_22 rfl (by decide) (fun h22 => absurd h22 y3) (fun h22 => ?_)
  refine v_iload_n (i := 2) h 25 26 dX3_addTeam_25 rfl rfl ld2 ?_
  refine v_bipush (v := 30) h 26 28 dX3_addTeam_26 rfl (by decide) ?_
  refine v_icmp_le h 28 31 41 dX3_addTeam_28 rfl (by decide) (fun h28 => ?_) (fun h28 => absurd (nlt_le y4) h28)
  refine v_aload_n (i := 0) h 41 42 dX3_addTeam_41 rfl rfl ld0 ?_
  refine v_get h 42 45 dX3_addTeam_42 rfl fo_X3_10 dl_dr rfl ?_
  refine v_get h 45 48 dX3_addTeam_45 rfl fo_X3_65 dl_h0.ln rfl ?_
  refine v_iconst (v := 4) h 48 49 dX3_addTeam_48 rfl (by decide) ?_
  refine v_icmp_lt h 49 52 62 dX3_addTeam_49 rfl (by decide) (fun h49 => ?_) (fun h49 => absurd (by rw [hI.c8]; exact nI_lt (b := 4) hm (by decide)) h49)
  refine v_aload_n (i := 0) h 62 63 dX3_addTeam_62 rfl rfl ld0 ?_
  refine v_callV0 h 63 66 dX3_addTeam_63 rfl cb_X3_save cv_X3_save dl_dr lk_X3_56 (rok (by decide) (by decide)) ⟨rfl, rfl⟩ ⟨Nat.zero_le _, Nat.zero_le _⟩ (k_save he hks hI) rfl rfl (Nat.le_of_ble_eq_true rfl) ?_
  refine v_aload_n (i := 0) h 66 67 dX3_addTeam_66 rfl rfl ld0 ?_
  refine v_get h 67 70 dX3_addTeam_67 rfl fo_X3_10 dl_dr rfl ?_
  refine v_iload_n (i := 1) h 70 71 dX3_addTeam_70 rfl rfl ld1 ?_
  refine v_iload_n (i := 2) h 71 72 dX3_addTeam_71 rfl rfl ld2 ?_
  refine v_callV1 h 72 75 dX3_addTeam_72 rfl cb_X1_sendTeam cv_X1_sendTeam dl_h0.ln lk_X3_70 (rok (by decide) (by decide)) ⟨rfl, rfl⟩ ⟨Nat.zero_le _, Nat.zero_le _⟩ (Cd.d0 (k_sendTeam hI.c8 hm sq ti)) rfl rfl (Nat.le_of_ble_eq_true rfl) ?_
  exact v_iret h 75 f dX3_addTeam_75 rfl (Nat.zero_le _) (Nat.zero_le _) rfl rfl

set_option maxRecDepth 100000 in
set_option maxHeartbeats 4000000 in
theorem c_setWay {E : EE} {D : Nat} {S0 S1 : St} {Sv : Nat → St} {tl : Int32} {tx : St} {w : Wo} {e ks : Nat} (he : e < 4) (hks : ks ≤ 4) {sp nc nt ne m : Nat} (hI : Inv S0 sp nc nt ne m) {k : Nat} {mi : Int32} (y1 : ¬ nI k < 0) (y2 : ¬ S0 0 - 2 < nI k) (hk : k < 6) (y3 : ¬ mi < 1) (y4 : ¬ 20 < mi) : Cd E mX3z_setWay (dl E D S0 S1 Sv (nI ks) (nI e) tl tx w) [.ref D, .int (nI k), .int mi] (some (.int (S0 (1 + k)))) (dl E D (upd S0 (1 + k) mi) S1 (va_up Sv e (cpS (Sv e) S0 nc nt)) (nI (min 4 (ks + 1))) (nI ((e + 1) % 4)) tl tx w) := by
  refine Cd.of RX3 rfl (by decide) [some (.ref D), some (.int (nI k)), some (.int mi), none] (Nat.le_of_ble_eq_true rfl) rfl (fun Γ h f hmn => ?_)
  refine v_aload_n (i := 0) h 0 1 dX3_setWay_0 rfl rfl ld0 ?_
  refine v_get h 1 4 dX3_setWay_1 rfl fo_X3_10 dl_dr rfl ?_
  refine v_iload_n (i := 1) h 4 5 dX3_setWay_4 rfl rfl ld1 ?_
  refine v_callV1 h 5 8 dX3_setWay_5 rfl cb_X1_hasWay cv_X1_hasWay dl_h0.ln lk_X3_74 (rok (by decide) (by decide)) ⟨rfl, rfl⟩ ⟨Nat.zero_le _, Nat.zero_le _⟩ (Cd.d0 (c_wayY hI.1.1.2.1 hI.1.1.2.2.1 hI.1.1.1 y1 y2)) rfl rfl (Nat.le_of_ble_eq_true rfl) ?_
  refine v_if_ne h 8 11 21 dX3_setWay_8 rfl (by decide) (fun h8 => ?_) (fun h8 => absurd h8 (by decide))
  refine v_iload_n (i := 2) h 21 22 dX3_setWay_21 rfl rfl ld2 ?_
  refine v_iconst (v := 1) h 22 23 dX3_setWay_22 rfl (by decide) ?_
  refine v_icmp_lt h 23 26 32 dX3_setWay_23 rfl (by decide) (fun h23 => absurd h23 y3) (fun h23 => ?_)
  refine v_iload_n (i := 2) h 26 27 dX3_setWay_26 rfl rfl ld2 ?_
  refine v_bipush (v := 20) h 27 29 dX3_setWay_27 rfl (by decide) ?_
  refine v_icmp_le h 29 32 42 dX3_setWay_29 rfl (by decide) (fun h29 => ?_) (fun h29 => absurd (nlt_le y4) h29)
  refine v_aload_n (i := 0) h 42 43 dX3_setWay_42 rfl rfl ld0 ?_
  refine v_callV0 h 43 46 dX3_setWay_43 rfl cb_X3_save cv_X3_save dl_dr lk_X3_56 (rok (by decide) (by decide)) ⟨rfl, rfl⟩ ⟨Nat.zero_le _, Nat.zero_le _⟩ (k_save he hks hI) rfl rfl (Nat.le_of_ble_eq_true rfl) ?_
  refine v_aload_n (i := 0) h 46 47 dX3_setWay_46 rfl rfl ld0 ?_
  refine v_get h 47 50 dX3_setWay_47 rfl fo_X3_10 dl_dr rfl ?_
  refine v_iload_n (i := 1) h 50 51 dX3_setWay_50 rfl rfl ld1 ?_
  refine v_callV1 h 51 54 dX3_setWay_51 rfl cb_X1_wayBehind cv_X1_wayBehind dl_h0.ln lk_X3_81 (rok (by decide) (by decide)) ⟨rfl, rfl⟩ ⟨Nat.zero_le _, Nat.zero_le _⟩ (Cd.d0 (k_wayB hk)) rfl rfl (Nat.le_of_ble_eq_true rfl) ?_
  refine v_istore_n (i := 3) h 54 55 dX3_setWay_54 rfl rfl (by decide) (so3 rfl) ?_
  refine v_aload_n (i := 0) h 55 56 dX3_setWay_55 rfl rfl ld0 ?_
  refine v_get h 56 59 dX3_setWay_56 rfl fo_X3_10 dl_dr rfl ?_
  refine v_iload_n (i := 1) h 59 60 dX3_setWay_59 rfl rfl ld1 ?_
  refine v_iload_n (i := 2) h 60 61 dX3_setWay_60 rfl rfl ld2 ?_
  refine v_callV0 h 61 64 dX3_setWay_61 rfl cb_X1_changeWay cv_X1_changeWay dl_h0.ln lk_X3_85 (rok (by decide) (by decide)) ⟨rfl, rfl⟩ ⟨Nat.zero_le _, Nat.zero_le _⟩ (Cd.d0 (k_changeWay k mi hk)) rfl rfl (Nat.le_of_ble_eq_true rfl) ?_
  refine v_iload_n (i := 3) h 64 65 dX3_setWay_64 rfl rfl ld3 ?_
  exact v_iret h 65 f dX3_setWay_65 rfl (Nat.zero_le _) (Nat.zero_le _) rfl rfl

set_option maxRecDepth 100000 in
set_option maxHeartbeats 4000000 in
theorem c_setCold {E : EE} {D : Nat} {S0 S1 : St} {Sv : Nat → St} {tl : Int32} {tx : St} {w : Wo} {e ks : Nat} (he : e < 4) (hks : ks ≤ 4) {sp nc nt ne m : Nat} (hI : Inv S0 sp nc nt ne m) {c : Nat} {co : Int32} (hc : c < nc) (y5 : ¬ co < 0) (y6 : ¬ 20 < co) (y7 : ¬ S0 (13 + 8 * c + 4) = 2) : Cd E mX3z_setCold (dl E D S0 S1 Sv (nI ks) (nI e) tl tx w) [.ref D, .int (nI c), .int co] (some (.int (S0 (13 + 8 * c + 2)))) (dl E D (upd S0 (13 + 8 * c + 2) co) S1 (va_up Sv e (cpS (Sv e) S0 nc nt)) (nI (min 4 (ks + 1))) (nI ((e + 1) % 4)) tl tx w) := by
  refine Cd.of RX3 rfl (by decide) [some (.ref D), some (.int (nI c)), some (.int co), none, none] (Nat.le_of_ble_eq_true rfl) rfl (fun Γ h f hmn => ?_)
  have hn14 := hI.n14
  have hc14 : c < 14 := by omega
  refine v_aload_n (i := 0) h 0 1 dX3_setCold_0 rfl rfl ld0 ?_
  refine v_get h 1 4 dX3_setCold_1 rfl fo_X3_10 dl_dr rfl ?_
  refine v_iload_n (i := 1) h 4 5 dX3_setCold_4 rfl rfl ld1 ?_
  refine v_callV1 h 5 8 dX3_setCold_5 rfl cb_X1_chairAt cv_X1_chairAt dl_h0.ln lk_X3_89 (rok (by decide) (by decide)) ⟨rfl, rfl⟩ ⟨Nat.zero_le _, Nat.zero_le _⟩ (Cd.d0 (k_chairS hI.c7 hI.n14 (c := c) (by omega))) rfl rfl (Nat.le_of_ble_eq_true rfl) ?_
  refine v_astore_n (i := 3) h 8 9 dX3_setCold_8 rfl rfl (by decide) (so3 rfl) ?_
  refine v_aload_n (i := 3) h 9 10 dX3_setCold_9 rfl rfl ld3 ?_
  refine v_ifnonnull h 10 23 dX3_setCold_10 (by decide) ?_
  refine v_iload_n (i := 2) h 23 24 dX3_setCold_23 rfl rfl ld2 ?_
  refine v_if_lt h 24 27 33 dX3_setCold_24 rfl (by decide) (fun h24 => absurd h24 y5) (fun h24 => ?_)
  refine v_iload_n (i := 2) h 27 28 dX3_setCold_27 rfl rfl ld2 ?_
  refine v_bipush (v := 20) h 28 30 dX3_setCold_28 rfl (by decide) ?_
  refine v_icmp_le h 30 33 43 dX3_setCold_30 rfl (by decide) (fun h30 => ?_) (fun h30 => absurd (nlt_le y6) h30)
  refine v_aload_n (i := 3) h 43 44 dX3_setCold_43 rfl rfl ld3 ?_
  refine v_get h 44 47 dX3_setCold_44 rfl fo_X3_97 (dl_h0.ch (by assumption)) rfl ?_
  refine v_iconst (v := 2) h 47 48 dX3_setCold_47 rfl (by decide) ?_
  refine v_icmp_ne h 48 51 61 dX3_setCold_48 rfl (by decide) (fun h48 => ?_) (fun h48 => absurd h48 y7)
  refine v_aload_n (i := 0) h 61 62 dX3_setCold_61 rfl rfl ld0 ?_
  refine v_callV0 h 62 65 dX3_setCold_62 rfl cb_X3_save cv_X3_save dl_dr lk_X3_56 (rok (by decide) (by decide)) ⟨rfl, rfl⟩ ⟨Nat.zero_le _, Nat.zero_le _⟩ (k_save he hks hI) rfl rfl (Nat.le_of_ble_eq_true rfl) ?_
  refine v_aload_n (i := 3) h 65 66 dX3_setCold_65 rfl rfl ld3 ?_
  refine v_get h 66 69 dX3_setCold_66 rfl fo_X3_104 (dl_h0.ch (by assumption)) rfl ?_
  refine v_istore (i := 4) h 69 71 dX3_setCold_69 rfl (by decide) (so4 rfl) ?_
  refine v_aload_n (i := 3) h 71 72 dX3_setCold_71 rfl rfl ld3 ?_
  refine v_iload_n (i := 2) h 72 73 dX3_setCold_72 rfl rfl ld2 ?_
  refine v_putCh0 h 73 76 dX3_setCold_73 rfl fw_X3_104 hc14 (by decide) ?_
  refine v_iload (i := 4) h 76 78 dX3_setCold_76 rfl ld4 ?_
  exact v_iret h 78 f dX3_setCold_78 rfl (Nat.zero_le _) (Nat.zero_le _) rfl rfl

set_option maxRecDepth 100000 in
set_option maxHeartbeats 4000000 in
theorem c_callOff0 {E : EE} {D : Nat} {S0 S1 : St} {Sv : Nat → St} {tl : Int32} {tx : St} {w : Wo} {e ks : Nat} (he : e < 4) (hks : ks ≤ 4) {sp nc nt ne m : Nat} (hI : Inv S0 sp nc nt ne m) {t : Nat} (ht : t < nt) (e4 : S0 (125 + 8 * t + 4) = -1) : Cd E mX3z_callOff (dl E D S0 S1 Sv (nI ks) (nI e) tl tx w) [.ref D, .int (nI t)] (some (.int (-1))) (dl E D (idleS S0 t) S1 (va_up Sv e (cpS (Sv e) S0 nc nt)) (nI (min 4 (ks + 1))) (nI ((e + 1) % 4)) tl tx w) := by
  refine Cd.of RX3 rfl (by decide) [some (.ref D), some (.int (nI t)), none, none, none] (Nat.le_of_ble_eq_true rfl) rfl (fun Γ h f hmn => ?_)
  have hn4 := hI.n4
  have ht4 : t < 4 := by omega
  refine v_aload_n (i := 0) h 0 1 dX3_callOff_0 rfl rfl ld0 ?_
  refine v_get h 1 4 dX3_callOff_1 rfl fo_X3_10 dl_dr rfl ?_
  refine v_iload_n (i := 1) h 4 5 dX3_callOff_4 rfl rfl ld1 ?_
  refine v_callV1 h 5 8 dX3_callOff_5 rfl cb_X1_teamAt cv_X1_teamAt dl_h0.ln lk_X3_107 (rok (by decide) (by decide)) ⟨rfl, rfl⟩ ⟨Nat.zero_le _, Nat.zero_le _⟩ (Cd.d0 (k_teamS hI.c8 hI.n4 (c := t) (by omega))) rfl rfl (Nat.le_of_ble_eq_true rfl) ?_
  refine v_astore_n (i := 2) h 8 9 dX3_callOff_8 rfl rfl (by decide) (so2 rfl) ?_
  refine v_aload_n (i := 2) h 9 10 dX3_callOff_9 rfl rfl ld2 ?_
  refine v_ifnonnull h 10 23 dX3_callOff_10 (by decide) ?_
  refine v_aload_n (i := 0) h 23 24 dX3_callOff_23 rfl rfl ld0 ?_
  refine v_callV0 h 24 27 dX3_callOff_24 rfl cb_X3_save cv_X3_save dl_dr lk_X3_56 (rok (by decide) (by decide)) ⟨rfl, rfl⟩ ⟨Nat.zero_le _, Nat.zero_le _⟩ (k_save he hks hI) rfl rfl (Nat.le_of_ble_eq_true rfl) ?_
  refine v_aload_n (i := 2) h 27 28 dX3_callOff_27 rfl rfl ld2 ?_
  refine v_get h 28 31 dX3_callOff_28 rfl fo_X3_113 (dl_h0.tm (by assumption)) rfl ?_
  rw [e4]
  refine v_istore_n (i := 3) h 31 32 dX3_callOff_31 rfl rfl (by decide) (so3 rfl) ?_
  refine v_aload_n (i := 0) h 32 33 dX3_callOff_32 rfl rfl ld0 ?_
  refine v_get h 33 36 dX3_callOff_33 rfl fo_X3_10 dl_dr rfl ?_
  refine v_iload_n (i := 3) h 36 37 dX3_callOff_36 rfl rfl ld3 ?_
  refine v_callV1 h 37 40 dX3_callOff_37 rfl cb_X1_chairAt cv_X1_chairAt dl_h0.ln lk_X3_89 (rok (by decide) (by decide)) ⟨rfl, rfl⟩ ⟨Nat.zero_le _, Nat.zero_le _⟩ (Cd.d0 (k_chairNone (Or.inl (by decide)))) rfl rfl (Nat.le_of_ble_eq_true rfl) ?_
  refine v_astoreN (i := 4) h 40 42 dX3_callOff_40 rfl (by decide) (so4 rfl) ?_
  refine v_aloadN (i := 4) h 42 44 dX3_callOff_42 rfl ld4 ?_
  refine v_ifnullN h 44 52 dX3_callOff_44 (by decide) ?_
  refine v_aload_n (i := 2) h 52 53 dX3_callOff_52 rfl rfl ld2 ?_
  refine v_callV0 h 53 56 dX3_callOff_53 rfl cb_X2_beIdle cv_X2_beIdle (dl_h0.tm (by assumption)) lk_X3_121 (rok (by decide) (by decide)) ⟨rfl, rfl⟩ ⟨Nat.zero_le _, Nat.zero_le _⟩ (Cd.d0 (k_beIdle ht4)) rfl rfl (Nat.le_of_ble_eq_true rfl) ?_
  refine v_iload_n (i := 3) h 56 57 dX3_callOff_56 rfl rfl ld3 ?_
  exact v_iret h 57 f dX3_callOff_57 rfl (Nat.zero_le _) (Nat.zero_le _) rfl rfl

set_option maxRecDepth 100000 in
set_option maxHeartbeats 4000000 in
theorem c_callOff {E : EE} {D : Nat} {S0 S1 : St} {Sv : Nat → St} {tl : Int32} {tx : St} {w : Wo} {e ks : Nat} (he : e < 4) (hks : ks ≤ 4) {sp nc nt ne m : Nat} (hI : Inv S0 sp nc nt ne m) {t c : Nat} (ht : t < nt) (hc : c < nc) (e4 : S0 (125 + 8 * t + 4) = nI c) : Cd E mX3z_callOff (dl E D S0 S1 Sv (nI ks) (nI e) tl tx w) [.ref D, .int (nI t)] (some (.int (nI c))) (dl E D (idleS (waitS S0 c) t) S1 (va_up Sv e (cpS (Sv e) S0 nc nt)) (nI (min 4 (ks + 1))) (nI ((e + 1) % 4)) tl tx w) := by
  refine Cd.of RX3 rfl (by decide) [some (.ref D), some (.int (nI t)), none, none, none] (Nat.le_of_ble_eq_true rfl) rfl (fun Γ h f hmn => ?_)
  have hn4 := hI.n4
  have ht4 : t < 4 := by omega
  have hn14 := hI.n14
  have hc14 : c < 14 := by omega
  refine v_aload_n (i := 0) h 0 1 dX3_callOff_0 rfl rfl ld0 ?_
  refine v_get h 1 4 dX3_callOff_1 rfl fo_X3_10 dl_dr rfl ?_
  refine v_iload_n (i := 1) h 4 5 dX3_callOff_4 rfl rfl ld1 ?_
  refine v_callV1 h 5 8 dX3_callOff_5 rfl cb_X1_teamAt cv_X1_teamAt dl_h0.ln lk_X3_107 (rok (by decide) (by decide)) ⟨rfl, rfl⟩ ⟨Nat.zero_le _, Nat.zero_le _⟩ (Cd.d0 (k_teamS hI.c8 hI.n4 (c := t) (by omega))) rfl rfl (Nat.le_of_ble_eq_true rfl) ?_
  refine v_astore_n (i := 2) h 8 9 dX3_callOff_8 rfl rfl (by decide) (so2 rfl) ?_
  refine v_aload_n (i := 2) h 9 10 dX3_callOff_9 rfl rfl ld2 ?_
  refine v_ifnonnull h 10 23 dX3_callOff_10 (by decide) ?_
  refine v_aload_n (i := 0) h 23 24 dX3_callOff_23 rfl rfl ld0 ?_
  refine v_callV0 h 24 27 dX3_callOff_24 rfl cb_X3_save cv_X3_save dl_dr lk_X3_56 (rok (by decide) (by decide)) ⟨rfl, rfl⟩ ⟨Nat.zero_le _, Nat.zero_le _⟩ (k_save he hks hI) rfl rfl (Nat.le_of_ble_eq_true rfl) ?_
  refine v_aload_n (i := 2) h 27 28 dX3_callOff_27 rfl rfl ld2 ?_
  refine v_get h 28 31 dX3_callOff_28 rfl fo_X3_113 (dl_h0.tm (by assumption)) rfl ?_
  rw [e4]
  refine v_istore_n (i := 3) h 31 32 dX3_callOff_31 rfl rfl (by decide) (so3 rfl) ?_
  refine v_aload_n (i := 0) h 32 33 dX3_callOff_32 rfl rfl ld0 ?_
  refine v_get h 33 36 dX3_callOff_33 rfl fo_X3_10 dl_dr rfl ?_
  refine v_iload_n (i := 3) h 36 37 dX3_callOff_36 rfl rfl ld3 ?_
  refine v_callV1 h 37 40 dX3_callOff_37 rfl cb_X1_chairAt cv_X1_chairAt dl_h0.ln lk_X3_89 (rok (by decide) (by decide)) ⟨rfl, rfl⟩ ⟨Nat.zero_le _, Nat.zero_le _⟩ (Cd.d0 (k_chairS hI.c7 hI.n14 (c := c) (by omega))) rfl rfl (Nat.le_of_ble_eq_true rfl) ?_
  refine v_astore (i := 4) h 40 42 dX3_callOff_40 rfl (by decide) (so4 rfl) ?_
  refine v_aload (i := 4) h 42 44 dX3_callOff_42 rfl ld4 ?_
  refine v_ifnull h 44 47 dX3_callOff_44 rfl ?_
  refine v_aload (i := 4) h 47 49 dX3_callOff_47 rfl ld4 ?_
  refine v_callV0 h 49 52 dX3_callOff_49 rfl cb_X0_waitAgain cv_X0_waitAgain (dl_h0.ch (by assumption)) lk_X3_118 (rok (by decide) (by decide)) ⟨rfl, rfl⟩ ⟨Nat.zero_le _, Nat.zero_le _⟩ (Cd.d0 (k_waitAgain hc14)) rfl rfl (Nat.le_of_ble_eq_true rfl) ?_
  refine v_aload_n (i := 2) h 52 53 dX3_callOff_52 rfl rfl ld2 ?_
  refine v_callV0 h 53 56 dX3_callOff_53 rfl cb_X2_beIdle cv_X2_beIdle (dl_h0.tm (by assumption)) lk_X3_121 (rok (by decide) (by decide)) ⟨rfl, rfl⟩ ⟨Nat.zero_le _, Nat.zero_le _⟩ (Cd.d0 (k_beIdle ht4)) rfl rfl (Nat.le_of_ble_eq_true rfl) ?_
  refine v_iload_n (i := 3) h 56 57 dX3_callOff_56 rfl rfl ld3 ?_
  exact v_iret h 57 f dX3_callOff_57 rfl (Nat.zero_le _) (Nat.zero_le _) rfl rfl

set_option maxRecDepth 100000 in
set_option maxHeartbeats 4000000 in
theorem c_pass {E : EE} {D : Nat} {S0 S1 : St} {Sv : Nat → St} {tl : Int32} {tx : St} {w : Wo} {e ks : Nat} (he : e < 4) (hks : ks ≤ 4) {sp nc nt ne m : Nat} (hI : Inv S0 sp nc nt ne m) {k : Nat} (y1 : ¬ nI k < 1) (y2 : ¬ 500 < nI k) (y3 : S0 9 + nI k ≤ 5000) (hk : k ≤ 500) (hm : m ≤ 5000) : Cd E mX3z_pass (dl E D S0 S1 Sv (nI ks) (nI e) tl tx w) [.ref D, .int (nI k)] (some (.int (pasS nc nt S0 m k 12 - S0 12))) (dl E D (pasS nc nt S0 m k) S1 (va_up Sv e (cpS (Sv e) S0 nc nt)) (nI (min 4 (ks + 1))) (nI ((e + 1) % 4)) tl tx w) := by
  refine Cd.of RX3 rfl (by decide) [some (.ref D), some (.int (nI k)), none, none] (Nat.le_of_ble_eq_true rfl) rfl (fun Γ h f hmn => ?_)
  refine v_iload_n (i := 1) h 0 1 dX3_pass_0 rfl rfl ld1 ?_
  refine v_iconst (v := 1) h 1 2 dX3_pass_1 rfl (by decide) ?_
  refine v_icmp_lt h 2 5 12 dX3_pass_2 rfl (by decide) (fun h2 => absurd h2 y1) (fun h2 => ?_)
  refine v_iload_n (i := 1) h 5 6 dX3_pass_5 rfl rfl ld1 ?_
  refine v_sipush (v := 500) h 6 9 dX3_pass_6 rfl (by decide) ?_
  refine v_icmp_le h 9 12 22 dX3_pass_9 rfl (by decide) (fun h9 => ?_) (fun h9 => absurd (nlt_le y2) h9)
  refine v_aload_n (i := 0) h 22 23 dX3_pass_22 rfl rfl ld0 ?_
  refine v_get h 23 26 dX3_pass_23 rfl fo_X3_10 dl_dr rfl ?_
  refine v_get h 26 29 dX3_pass_26 rfl fo_X3_124 dl_h0.ln rfl ?_
  refine v_iload_n (i := 1) h 29 30 dX3_pass_29 rfl rfl ld1 ?_
  refine v_iadd h 30 31 dX3_pass_30 rfl ?_
  refine v_sipush (v := 5000) h 31 34 dX3_pass_31 rfl (by decide) ?_
  refine v_icmp_le h 34 37 47 dX3_pass_34 rfl (by decide) (fun h34 => ?_) (fun h34 => absurd y3 h34)
  refine v_aload_n (i := 0) h 47 48 dX3_pass_47 rfl rfl ld0 ?_
  refine v_callV0 h 48 51 dX3_pass_48 rfl cb_X3_save cv_X3_save dl_dr lk_X3_56 (rok (by decide) (by decide)) ⟨rfl, rfl⟩ ⟨Nat.zero_le _, Nat.zero_le _⟩ (k_save he hks hI) rfl rfl (Nat.le_of_ble_eq_true rfl) ?_
  refine v_aload_n (i := 0) h 51 52 dX3_pass_51 rfl rfl ld0 ?_
  refine v_get h 52 55 dX3_pass_52 rfl fo_X3_10 dl_dr rfl ?_
  refine v_get h 55 58 dX3_pass_55 rfl fo_X3_129 dl_h0.ln rfl ?_
  refine v_istore_n (i := 2) h 58 59 dX3_pass_58 rfl rfl (by decide) (so2 rfl) ?_
  refine v_iconst (v := 0) h 59 60 dX3_pass_59 rfl (by decide) ?_
  refine v_istore_n (i := 3) h 60 61 dX3_pass_60 rfl rfl (by decide) (so3 rfl) ?_
  have loop61 : ∀ d j, j + d = k → V E Γ 0 0 61 [some (.ref D), some (.int (nI k)), some (.int (S0 12)), some (.int (nI j))] [] (dl E D (pasS nc nt S0 m j) S1 (va_up Sv e (cpS (Sv e) S0 nc nt)) (nI (min 4 (ks + 1))) (nI ((e + 1) % 4)) tl tx w) := by
    intro d
    induction d with
    | zero =>
      intro j hj
      obtain rfl : j = k := by omega
      refine v_iload_n (i := 3) h 61 62 dX3_pass_61 rfl rfl ld3 ?_
      refine v_iload_n (i := 1) h 62 63 dX3_pass_62 rfl rfl ld1 ?_
      refine v_icmp_ge h 63 66 79 dX3_pass_63 rfl (by decide) (fun h63 => ?_) (fun h63 => absurd (nI_le (Nat.le_refl _) (by omega)) h63)
      refine v_aload_n (i := 0) h 79 80 dX3_pass_79 rfl rfl ld0 ?_
      refine v_get h 80 83 dX3_pass_80 rfl fo_X3_10 dl_dr rfl ?_
      refine v_get h 83 86 dX3_pass_83 rfl fo_X3_129 dl_h0.ln rfl ?_
      refine v_iload_n (i := 2) h 86 87 dX3_pass_86 rfl rfl ld2 ?_
      refine v_isub h 87 88 dX3_pass_87 rfl ?_
      exact v_iret h 88 f dX3_pass_88 rfl (Nat.zero_le _) (Nat.zero_le _) rfl rfl
    | succ d ih =>
      intro j hj
      obtain ⟨ne2, hIj⟩ := inv_pas hI j
      refine v_iload_n (i := 3) h 61 62 dX3_pass_61 rfl rfl ld3 ?_
      refine v_iload_n (i := 1) h 62 63 dX3_pass_62 rfl rfl ld1 ?_
      refine v_icmp_ge h 63 66 79 dX3_pass_63 rfl (by decide) (fun h63 => absurd h63 (nI_ge (by omega) (by omega))) (fun h63 => ?_)
      refine v_aload_n (i := 0) h 66 67 dX3_pass_66 rfl rfl ld0 ?_
      refine v_get h 67 70 dX3_pass_67 rfl fo_X3_10 dl_dr rfl ?_
      refine v_callV0 h 70 73 dX3_pass_70 rfl cb_X1_passMinute cv_X1_passMinute dl_h0.ln lk_X3_132 (rok (by decide) (by decide)) ⟨rfl, rfl⟩ ⟨Nat.zero_le _, Nat.zero_le _⟩ (Cd.d0 (k_passMinute hIj (by omega))) rfl rfl (Nat.le_of_ble_eq_true rfl) ?_
      refine v_iinc (i := 3) h 73 76 dX3_pass_73 rfl ld3 (by first | exact iinc1 _ | rfl) (by decide) (so3 rfl) ?_
      refine v_goto h 76 61 dX3_pass_76 (by decide) ?_
      exact V.weakT (ih (j + 1) (by omega)) (And.intro rfl (And.intro rfl (And.intro rfl (And.intro rfl trivial))))
  exact V.weakT (loop61 k 0 (by omega)) (And.intro rfl (And.intro rfl (And.intro rfl (And.intro rfl trivial))))

set_option maxRecDepth 100000 in
set_option maxHeartbeats 4000000 in
theorem c_chair {E : EE} {D : Nat} {S0 S1 : St} {Sv : Nat → St} {sc se tl : Int32} {tx : St} {w : Wo} {sp nc nt ne m : Nat} (hI : Inv S0 sp nc nt ne m) {c k : Nat} (hc : c < nc) (hk : k < 9) : Cd E mX3z_chair (dl E D S0 S1 Sv sc se tl tx w) [.ref D, .int (nI c), .int (nI k)] (some (.int (chFact S0 c k))) (dl E D S0 S1 Sv sc se tl tx w) := by
  refine Cd.of RX3 rfl (by decide) [some (.ref D), some (.int (nI c)), some (.int (nI k)), none] (Nat.le_of_ble_eq_true rfl) rfl (fun Γ h f hmn => ?_)
  have hn14 := hI.n14
  have hc14 : c < 14 := by omega
  refine v_aload_n (i := 0) h 0 1 dX3_chair_0 rfl rfl ld0 ?_
  refine v_get h 1 4 dX3_chair_1 rfl fo_X3_10 dl_dr rfl ?_
  refine v_iload_n (i := 1) h 4 5 dX3_chair_4 rfl rfl ld1 ?_
  refine v_callV1 h 5 8 dX3_chair_5 rfl cb_X1_chairAt cv_X1_chairAt dl_h0.ln lk_X3_89 (rok (by decide) (by decide)) ⟨rfl, rfl⟩ ⟨Nat.zero_le _, Nat.zero_le _⟩ (Cd.d0 (k_chairS hI.c7 hI.n14 (c := c) (by omega))) rfl rfl (Nat.le_of_ble_eq_true rfl) ?_
  refine v_astore_n (i := 3) h 8 9 dX3_chair_8 rfl rfl (by decide) (so3 rfl) ?_
  refine v_aload_n (i := 3) h 9 10 dX3_chair_9 rfl rfl ld3 ?_
  refine v_ifnonnull h 10 23 dX3_chair_10 (by decide) ?_
  refine v_iload_n (i := 2) h 23 24 dX3_chair_23 rfl rfl ld2 ?_
  refine v_if_lt h 24 27 33 dX3_chair_24 rfl (by decide) (fun h24 => absurd h24 (nI_pos (by omega))) (fun h24 => ?_)
  refine v_iload_n (i := 2) h 27 28 dX3_chair_27 rfl rfl ld2 ?_
  refine v_bipush (v := 9) h 28 30 dX3_chair_28 rfl (by decide) ?_
  refine v_icmp_lt h 30 33 43 dX3_chair_30 rfl (by decide) (fun h30 => ?_) (fun h30 => absurd (nI_lt (b := 9) hk (by decide)) h30)
  refine v_aload_n (i := 3) h 43 44 dX3_chair_43 rfl rfl ld3 ?_
  refine v_iload_n (i := 2) h 44 45 dX3_chair_44 rfl rfl ld2 ?_
  refine v_callV1 h 45 48 dX3_chair_45 rfl cb_X0_fact cv_X0_fact (dl_h0.ch (by assumption)) lk_X3_149 (rok (by decide) (by decide)) ⟨rfl, rfl⟩ ⟨Nat.zero_le _, Nat.zero_le _⟩ (Cd.d0 (k_chFact hc14 (hI.chz c hc) hk)) rfl rfl (Nat.le_of_ble_eq_true rfl) ?_
  exact v_iret h 48 f dX3_chair_48 rfl (Nat.zero_le _) (Nat.zero_le _) rfl rfl

set_option maxRecDepth 100000 in
set_option maxHeartbeats 4000000 in
theorem c_team {E : EE} {D : Nat} {S0 S1 : St} {Sv : Nat → St} {sc se tl : Int32} {tx : St} {w : Wo} {sp nc nt ne m : Nat} (hI : Inv S0 sp nc nt ne m) {t k : Nat} (ht : t < nt) (hk : k < 8) : Cd E mX3z_team (dl E D S0 S1 Sv sc se tl tx w) [.ref D, .int (nI t), .int (nI k)] (some (.int (S0 (125 + 8 * t + k)))) (dl E D S0 S1 Sv sc se tl tx w) := by
  refine Cd.of RX3 rfl (by decide) [some (.ref D), some (.int (nI t)), some (.int (nI k)), none] (Nat.le_of_ble_eq_true rfl) rfl (fun Γ h f hmn => ?_)
  have hn4 := hI.n4
  have ht4 : t < 4 := by omega
  refine v_aload_n (i := 0) h 0 1 dX3_team_0 rfl rfl ld0 ?_
  refine v_get h 1 4 dX3_team_1 rfl fo_X3_10 dl_dr rfl ?_
  refine v_iload_n (i := 1) h 4 5 dX3_team_4 rfl rfl ld1 ?_
  refine v_callV1 h 5 8 dX3_team_5 rfl cb_X1_teamAt cv_X1_teamAt dl_h0.ln lk_X3_107 (rok (by decide) (by decide)) ⟨rfl, rfl⟩ ⟨Nat.zero_le _, Nat.zero_le _⟩ (Cd.d0 (k_teamS hI.c8 hI.n4 (c := t) (by omega))) rfl rfl (Nat.le_of_ble_eq_true rfl) ?_
  refine v_astore_n (i := 3) h 8 9 dX3_team_8 rfl rfl (by decide) (so3 rfl) ?_
  refine v_aload_n (i := 3) h 9 10 dX3_team_9 rfl rfl ld3 ?_
  refine v_ifnonnull h 10 23 dX3_team_10 (by decide) ?_
  refine v_iload_n (i := 2) h 23 24 dX3_team_23 rfl rfl ld2 ?_
  refine v_if_lt h 24 27 33 dX3_team_24 rfl (by decide) (fun h24 => absurd h24 (nI_pos (by omega))) (fun h24 => ?_)
  refine v_iload_n (i := 2) h 27 28 dX3_team_27 rfl rfl ld2 ?_
  refine v_bipush (v := 8) h 28 30 dX3_team_28 rfl (by decide) ?_
  refine v_icmp_lt h 30 33 43 dX3_team_30 rfl (by decide) (fun h30 => ?_) (fun h30 => absurd (nI_lt (b := 8) hk (by decide)) h30)
  refine v_aload_n (i := 3) h 43 44 dX3_team_43 rfl rfl ld3 ?_
  refine v_iload_n (i := 2) h 44 45 dX3_team_44 rfl rfl ld2 ?_
  refine v_callV1 h 45 48 dX3_team_45 rfl cb_X2_fact cv_X2_fact (dl_h0.tm (by assumption)) lk_X3_152 (rok (by decide) (by decide)) ⟨rfl, rfl⟩ ⟨Nat.zero_le _, Nat.zero_le _⟩ (Cd.d0 (k_tmFact ht4 hk)) rfl rfl (Nat.le_of_ble_eq_true rfl) ?_
  exact v_iret h 48 f dX3_team_48 rfl (Nat.zero_le _) (Nat.zero_le _) rfl rfl

set_option maxRecDepth 100000 in
set_option maxHeartbeats 4000000 in
theorem c_value {E : EE} {D : Nat} {S0 S1 : St} {Sv : Nat → St} {sc se tl : Int32} {tx : St} {w : Wo} {sp nc nt ne m : Nat} (hI : Inv S0 sp nc nt ne m) {k : Nat} (hk : k < 12) : Cd E mX3z_value (dl E D S0 S1 Sv sc se tl tx w) [.ref D, .int (nI k)] (some (.int (lnFact S0 nc k))) (dl E D S0 S1 Sv sc se tl tx w) := by
  refine Cd.of RX3 rfl (by decide) [some (.ref D), some (.int (nI k))] (Nat.le_of_ble_eq_true rfl) rfl (fun Γ h f hmn => ?_)
  refine v_iload_n (i := 1) h 0 1 dX3_value_0 rfl rfl ld1 ?_
  refine v_if_lt h 1 4 10 dX3_value_1 rfl (by decide) (fun h1 => absurd h1 (nI_pos (by omega))) (fun h1 => ?_)
  refine v_iload_n (i := 1) h 4 5 dX3_value_4 rfl rfl ld1 ?_
  refine v_bipush (v := 12) h 5 7 dX3_value_5 rfl (by decide) ?_
  refine v_icmp_lt h 7 10 20 dX3_value_7 rfl (by decide) (fun h7 => ?_) (fun h7 => absurd (nI_lt (b := 12) hk (by decide)) h7)
  refine v_aload_n (i := 0) h 20 21 dX3_value_20 rfl rfl ld0 ?_
  refine v_get h 21 24 dX3_value_21 rfl fo_X3_10 dl_dr rfl ?_
  refine v_iload_n (i := 1) h 24 25 dX3_value_24 rfl rfl ld1 ?_
  refine v_callV1 h 25 28 dX3_value_25 rfl cb_X1_fact cv_X1_fact dl_h0.ln lk_X3_153 (rok (by decide) (by decide)) ⟨rfl, rfl⟩ ⟨Nat.zero_le _, Nat.zero_le _⟩ (Cd.d0 (k_lnFact hI.c7 hI.n14 hk)) rfl rfl (Nat.le_of_ble_eq_true rfl) ?_
  exact v_iret h 28 f dX3_value_28 rfl (Nat.zero_le _) (Nat.zero_le _) rfl rfl

set_option maxRecDepth 100000 in
set_option maxHeartbeats 4000000 in
theorem c_way {E : EE} {D : Nat} {S0 S1 : St} {Sv : Nat → St} {sc se tl : Int32} {tx : St} {w : Wo} {x y : Int32} (y1 : ¬ x < 0) (y2 : ¬ S0 0 ≤ x) (y3 : ¬ y < 0) (y4 : ¬ S0 0 ≤ y) (hx : InS x) (hy : InS y) : Cd E mX3z_way (dl E D S0 S1 Sv sc se tl tx w) [.ref D, .int x, .int y] (some (.int (wayV S0 x y))) (dl E D S0 S1 Sv sc se tl tx w) := by
  refine Cd.of RX3 rfl (by decide) [some (.ref D), some (.int x), some (.int y)] (Nat.le_of_ble_eq_true rfl) rfl (fun Γ h f hmn => ?_)
  refine v_aload_n (i := 0) h 0 1 dX3_way_0 rfl rfl ld0 ?_
  refine v_get h 1 4 dX3_way_1 rfl fo_X3_10 dl_dr rfl ?_
  refine v_iload_n (i := 1) h 4 5 dX3_way_4 rfl rfl ld1 ?_
  refine v_callV1 h 5 8 dX3_way_5 rfl cb_X1_hasSpan cv_X1_hasSpan dl_h0.ln lk_X3_31 (rok (by decide) (by decide)) ⟨rfl, rfl⟩ ⟨Nat.zero_le _, Nat.zero_le _⟩ (Cd.d0 (c_spanY y1 y2)) rfl rfl (Nat.le_of_ble_eq_true rfl) ?_
  refine v_if_eq h 8 11 22 dX3_way_8 rfl (by decide) (fun h8 => absurd h8 (by decide)) (fun h8 => ?_)
  refine v_aload_n (i := 0) h 11 12 dX3_way_11 rfl rfl ld0 ?_
  refine v_get h 12 15 dX3_way_12 rfl fo_X3_10 dl_dr rfl ?_
  refine v_iload_n (i := 2) h 15 16 dX3_way_15 rfl rfl ld2 ?_
  refine v_callV1 h 16 19 dX3_way_16 rfl cb_X1_hasSpan cv_X1_hasSpan dl_h0.ln lk_X3_31 (rok (by decide) (by decide)) ⟨rfl, rfl⟩ ⟨Nat.zero_le _, Nat.zero_le _⟩ (Cd.d0 (c_spanY y3 y4)) rfl rfl (Nat.le_of_ble_eq_true rfl) ?_
  refine v_if_ne h 19 22 32 dX3_way_19 rfl (by decide) (fun h19 => ?_) (fun h19 => absurd h19 (by decide))
  refine v_aload_n (i := 0) h 32 33 dX3_way_32 rfl rfl ld0 ?_
  refine v_get h 33 36 dX3_way_33 rfl fo_X3_10 dl_dr rfl ?_
  refine v_iload_n (i := 1) h 36 37 dX3_way_36 rfl rfl ld1 ?_
  refine v_iload_n (i := 2) h 37 38 dX3_way_37 rfl rfl ld2 ?_
  refine v_callV1 h 38 41 dX3_way_38 rfl cb_X1_wayBetween cv_X1_wayBetween dl_h0.ln lk_X3_154 (rok (by decide) (by decide)) ⟨rfl, rfl⟩ ⟨Nat.zero_le _, Nat.zero_le _⟩ (Cd.d0 (k_wayBetween hx hy)) rfl rfl (Nat.le_of_ble_eq_true rfl) ?_
  exact v_iret h 41 f dX3_way_41 rfl (Nat.zero_le _) (Nat.zero_le _) rfl rfl

set_option maxRecDepth 100000 in
set_option maxHeartbeats 4000000 in
theorem c_work {E : EE} {D : Nat} {S0 S1 : St} {Sv : Nat → St} {sc se tl : Int32} {tx : St} {w : Wo} {sp nc nt ne m : Nat} (hI : Inv S0 sp nc nt ne m) {c t : Nat} (hc : c < nc) (ht : t < nt) : Cd E mX3z_work (dl E D S0 S1 Sv sc se tl tx w) [.ref D, .int (nI c), .int (nI t)] (some (.int (wkS S0 nt c (nI t) (S0 (125 + 8 * t + 1))))) (dl E D S0 S1 Sv sc se tl tx w) := by
  refine Cd.of RX3 rfl (by decide) [some (.ref D), some (.int (nI c)), some (.int (nI t)), none, none] (Nat.le_of_ble_eq_true rfl) rfl (fun Γ h f hmn => ?_)
  have hn14 := hI.n14
  have hc14 : c < 14 := by omega
  have hn4 := hI.n4
  have ht4 : t < 4 := by omega
  refine v_aload_n (i := 0) h 0 1 dX3_work_0 rfl rfl ld0 ?_
  refine v_get h 1 4 dX3_work_1 rfl fo_X3_10 dl_dr rfl ?_
  refine v_iload_n (i := 1) h 4 5 dX3_work_4 rfl rfl ld1 ?_
  refine v_callV1 h 5 8 dX3_work_5 rfl cb_X1_chairAt cv_X1_chairAt dl_h0.ln lk_X3_89 (rok (by decide) (by decide)) ⟨rfl, rfl⟩ ⟨Nat.zero_le _, Nat.zero_le _⟩ (Cd.d0 (k_chairS hI.c7 hI.n14 (c := c) (by omega))) rfl rfl (Nat.le_of_ble_eq_true rfl) ?_
  refine v_astore_n (i := 3) h 8 9 dX3_work_8 rfl rfl (by decide) (so3 rfl) ?_
  refine v_aload_n (i := 0) h 9 10 dX3_work_9 rfl rfl ld0 ?_
  refine v_get h 10 13 dX3_work_10 rfl fo_X3_10 dl_dr rfl ?_
  refine v_iload_n (i := 2) h 13 14 dX3_work_13 rfl rfl ld2 ?_
  refine v_callV1 h 14 17 dX3_work_14 rfl cb_X1_teamAt cv_X1_teamAt dl_h0.ln lk_X3_107 (rok (by decide) (by decide)) ⟨rfl, rfl⟩ ⟨Nat.zero_le _, Nat.zero_le _⟩ (Cd.d0 (k_teamS hI.c8 hI.n4 (c := t) (by omega))) rfl rfl (Nat.le_of_ble_eq_true rfl) ?_
  refine v_astore (i := 4) h 17 19 dX3_work_17 rfl (by decide) (so4 rfl) ?_
  refine v_aload_n (i := 3) h 19 20 dX3_work_19 rfl rfl ld3 ?_
  refine v_ifnull h 20 23 dX3_work_20 rfl ?_
  refine v_aload (i := 4) h 23 25 dX3_work_23 rfl ld4 ?_
  refine v_ifnonnull h 25 38 dX3_work_25 (by decide) ?_
  refine v_aload_n (i := 0) h 38 39 dX3_work_38 rfl rfl ld0 ?_
  refine v_get h 39 42 dX3_work_39 rfl fo_X3_10 dl_dr rfl ?_
  refine v_aload_n (i := 3) h 42 43 dX3_work_42 rfl rfl ld3 ?_
  refine v_iload_n (i := 2) h 43 44 dX3_work_43 rfl rfl ld2 ?_
  refine v_aload (i := 4) h 44 46 dX3_work_44 rfl ld4 ?_
  refine v_get h 46 49 dX3_work_46 rfl fo_X3_159 (dl_h0.tm (by assumption)) rfl ?_
  refine v_callV1 h 49 52 dX3_work_49 rfl cb_X1_workOf cv_X1_workOf dl_h0.ln lk_X3_162 (rok (by decide) (by decide)) ⟨rfl, rfl⟩ ⟨Nat.zero_le _, Nat.zero_le _⟩ (Cd.d0 (k_workOf hc14 hI.c8 hI.n4 _ _)) rfl rfl (Nat.le_of_ble_eq_true rfl) ?_
  exact v_iret h 52 f dX3_work_52 rfl (Nat.zero_le _) (Nat.zero_le _) rfl rfl

set_option maxRecDepth 100000 in
set_option maxHeartbeats 4000000 in
theorem c_journalY {E : EE} {D : Nat} {S0 S1 : St} {Sv : Nat → St} {sc se tl : Int32} {tx : St} {w : Wo} {sp nc nt ne m : Nat} (hI : Inv S0 sp nc nt ne m) {j : Nat} (hj : j < ne) : Cd E mX3z_journal (dl E D S0 S1 Sv sc se tl tx w) [.ref D, .int (nI j)] (some (.int (S0 (157 + j)))) (dl E D S0 S1 Sv sc se tl tx w) := by
  refine Cd.of RX3 rfl (by decide) [some (.ref D), some (.int (nI j))] (Nat.le_of_ble_eq_true rfl) rfl (fun Γ h f hmn => ?_)
  refine v_iload_n (i := 1) h 0 1 dX3_journal_0 rfl rfl ld1 ?_
  refine v_if_ge h 1 4 14 dX3_journal_1 rfl (by decide) (fun h1 => ?_) (fun h1 => absurd (nlt_le (nI_pos (by have := hI.nle; have := hI.n14; omega))) h1)
  refine v_aload_n (i := 0) h 14 15 dX3_journal_14 rfl rfl ld0 ?_
  refine v_get h 15 18 dX3_journal_15 rfl fo_X3_10 dl_dr rfl ?_
  refine v_iload_n (i := 1) h 18 19 dX3_journal_18 rfl rfl ld1 ?_
  refine v_callV1 h 19 22 dX3_journal_19 rfl cb_X1_journalAt cv_X1_journalAt dl_h0.ln lk_X3_168 (rok (by decide) (by decide)) ⟨rfl, rfl⟩ ⟨Nat.zero_le _, Nat.zero_le _⟩ (Cd.d0 (k_jrn hI.c12 (by have := hI.nle; have := hI.n14; omega) hj)) rfl rfl (Nat.le_of_ble_eq_true rfl) ?_
  exact v_iret h 22 f dX3_journal_22 rfl (Nat.zero_le _) (Nat.zero_le _) rfl rfl

theorem jrnN {E : EE} {B : Nat} {S : St} {w : Wo} {x : Int32} (y1 : ¬ x < 0) (y2 : S 12 ≤ x) : Cd E mX1_journalAt (pl E B S w) [.ref B, .int x] (some (.int (-1))) (pl E B S w) := by
  have h := k_journalAt (E := E) (B := B) (S := S) (w := w) x
  rw [if_neg y1, if_pos y2] at h
  exact h
set_option maxRecDepth 100000 in
set_option maxHeartbeats 4000000 in
theorem c_journalN {E : EE} {D : Nat} {S0 S1 : St} {Sv : Nat → St} {sc se tl : Int32} {tx : St} {w : Wo} {x : Int32} (y1 : ¬ x < 0) (y2 : S0 12 ≤ x) : Cd E mX3z_journal (dl E D S0 S1 Sv sc se tl tx w) [.ref D, .int x] (some (.int (-1))) (dl E D S0 S1 Sv sc se tl tx w) := by
  refine Cd.of RX3 rfl (by decide) [some (.ref D), some (.int x)] (Nat.le_of_ble_eq_true rfl) rfl (fun Γ h f hmn => ?_)
  refine v_iload_n (i := 1) h 0 1 dX3_journal_0 rfl rfl ld1 ?_
  refine v_if_ge h 1 4 14 dX3_journal_1 rfl (by decide) (fun h1 => ?_) (fun h1 => absurd (nlt_le y1) h1)
  refine v_aload_n (i := 0) h 14 15 dX3_journal_14 rfl rfl ld0 ?_
  refine v_get h 15 18 dX3_journal_15 rfl fo_X3_10 dl_dr rfl ?_
  refine v_iload_n (i := 1) h 18 19 dX3_journal_18 rfl rfl ld1 ?_
  refine v_callV1 h 19 22 dX3_journal_19 rfl cb_X1_journalAt cv_X1_journalAt dl_h0.ln lk_X3_168 (rok (by decide) (by decide)) ⟨rfl, rfl⟩ ⟨Nat.zero_le _, Nat.zero_le _⟩ (Cd.d0 (jrnN y1 y2)) rfl rfl (Nat.le_of_ble_eq_true rfl) ?_
  exact v_iret h 22 f dX3_journal_22 rfl (Nat.zero_le _) (Nat.zero_le _) rfl rfl

set_option maxRecDepth 100000 in
set_option maxHeartbeats 4000000 in
theorem c_chosen {E : EE} {D : Nat} {S0 S1 : St} {Sv : Nat → St} {sc se tl : Int32} {tx : St} {w : Wo} {sp nc nt ne m : Nat} (hI : Inv S0 sp nc nt ne m) {x : Int32} (hx : InS x) (y1 : ¬ x < 0) (y2 : ¬ S0 0 ≤ x) : Cd E mX3z_chosen (dl E D S0 S1 Sv sc se tl tx w) [.ref D, .int x] (some (.int (chs S0 x nc).1)) (dl E D S0 S1 Sv sc se tl tx w) := by
  refine Cd.of RX3 rfl (by decide) [some (.ref D), some (.int x)] (Nat.le_of_ble_eq_true rfl) rfl (fun Γ h f hmn => ?_)
  refine v_aload_n (i := 0) h 0 1 dX3_chosen_0 rfl rfl ld0 ?_
  refine v_get h 1 4 dX3_chosen_1 rfl fo_X3_10 dl_dr rfl ?_
  refine v_iload_n (i := 1) h 4 5 dX3_chosen_4 rfl rfl ld1 ?_
  refine v_callV1 h 5 8 dX3_chosen_5 rfl cb_X1_hasSpan cv_X1_hasSpan dl_h0.ln lk_X3_31 (rok (by decide) (by decide)) ⟨rfl, rfl⟩ ⟨Nat.zero_le _, Nat.zero_le _⟩ (Cd.d0 (c_spanY y1 y2)) rfl rfl (Nat.le_of_ble_eq_true rfl) ?_
  refine v_if_ne h 8 11 21 dX3_chosen_8 rfl (by decide) (fun h8 => ?_) (fun h8 => absurd h8 (by decide))
  refine v_aload_n (i := 0) h 21 22 dX3_chosen_21 rfl rfl ld0 ?_
  refine v_get h 22 25 dX3_chosen_22 rfl fo_X3_10 dl_dr rfl ?_
  refine v_iload_n (i := 1) h 25 26 dX3_chosen_25 rfl rfl ld1 ?_
  refine v_callV1 h 26 29 dX3_chosen_26 rfl cb_X1_choiceFrom cv_X1_choiceFrom dl_h0.ln lk_X3_174 (rok (by decide) (by decide)) ⟨rfl, rfl⟩ ⟨Nat.zero_le _, Nat.zero_le _⟩ (Cd.d0 (k_choiceFrom hI.c7 hI.n14 hx hI.InC)) rfl rfl (Nat.le_of_ble_eq_true rfl) ?_
  exact v_iret h 29 f dX3_chosen_29 rfl (Nat.zero_le _) (Nat.zero_le _) rfl rfl
