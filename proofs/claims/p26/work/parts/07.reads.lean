/-! THE LINE'S READS -/
theorem rok {M M2 : MI} (h1 : (mR M2).frames + 1 ≤ (mR M).frames) (h2 : 8 + (mL M2 + 11) + (mR M2).locals ≤ (mR M).locals) : RoomOK M M2 := ⟨h1, h2⟩
theorem iinc1 (i : Nat) : nI i + Int32.ofInt 1 = nI (i + 1) := nI_1 i
theorem vp_in_2 {i : Int32} {N : Nat} (h1 : ¬ i < 0) (h2 : ¬ nI N ≤ i) (hN : N < 2 ^ 31) : vp_in i N := by
  obtain ⟨j, hj, rfl⟩ := nI_of h1
  exact vp_in_nI (by
    rcases Nat.lt_or_ge j N with h | h
    · exact h
    · exact absurd (nI_le h hj) h2) hN
theorem nI_lt_of {i j : Nat} (h : ¬ nI j ≤ nI i) (hj : i < 2 ^ 31) : i < j := by
  rcases Nat.lt_or_ge i j with q | q
  · exact q
  · exact absurd (nI_le q hj) h

set_option maxRecDepth 100000 in
set_option maxHeartbeats 4000000 in
theorem k_hasSpan {E : EE} {B : Nat} {S : St} {w : Wo} (i : Int32) : Cd E mX1_hasSpan (pl E B S w) [.ref B, .int i] (some (.int (if i < 0 then 0 else if S 0 ≤ i then 0 else 1))) (pl E B S w) := by
  refine Cd.of RX1 rfl (by decide) [some (.ref B), some (.int i)] (Nat.le_of_ble_eq_true rfl) rfl (fun Γ h f hmn => ?_)
  refine v_iload_n (i := 1) h 0 1 dX1_hasSpan_0 rfl rfl ld1 ?_
  refine v_if_lt h 1 4 16 dX1_hasSpan_1 rfl (by decide) (fun h1 => ?_) (fun h1 => ?_)
  · refine v_iconst (v := 0) h 16 17 dX1_hasSpan_16 rfl (by decide) ?_
    refine v_zret h 17 f dX1_hasSpan_17 rfl rfl (Nat.zero_le _) (Nat.zero_le _) ?_ ?_
    all_goals first | rfl | (simp only [h1, ↓reduceIte]; done) | (simp only [h1, ↓reduceIte]; rfl)
  · refine v_iload_n (i := 1) h 4 5 dX1_hasSpan_4 rfl rfl ld1 ?_
    refine v_aload_n (i := 0) h 5 6 dX1_hasSpan_5 rfl rfl ld0 ?_
    refine v_get h 6 9 dX1_hasSpan_6 rfl fo_X1_32 pl_ln rfl ?_
    refine v_icmp_ge h 9 12 16 dX1_hasSpan_9 rfl (by decide) (fun h9 => ?_) (fun h9 => ?_)
    · refine v_iconst (v := 0) h 16 17 dX1_hasSpan_16 rfl (by decide) ?_
      refine v_zret h 17 f dX1_hasSpan_17 rfl rfl (Nat.zero_le _) (Nat.zero_le _) ?_ ?_
      all_goals first | rfl | (simp only [h1, h9, ↓reduceIte]; done) | (simp only [h1, h9, ↓reduceIte]; rfl)
    · refine v_iconst (v := 1) h 12 13 dX1_hasSpan_12 rfl (by decide) ?_
      refine v_goto h 13 17 dX1_hasSpan_13 (by decide) ?_
      refine v_zret h 17 f dX1_hasSpan_17 rfl rfl (Nat.zero_le _) (Nat.zero_le _) ?_ ?_
      all_goals first | rfl | (simp only [h1, h9, ↓reduceIte]; done) | (simp only [h1, h9, ↓reduceIte]; rfl)

set_option maxRecDepth 100000 in
set_option maxHeartbeats 4000000 in
theorem k_hasWay {E : EE} {B : Nat} {S : St} {w : Wo} (i : Int32) : Cd E mX1_hasWay (pl E B S w) [.ref B, .int i] (some (.int (if i < 0 then 0 else if S 0 - 1 ≤ i then 0 else 1))) (pl E B S w) := by
  refine Cd.of RX1 rfl (by decide) [some (.ref B), some (.int i)] (Nat.le_of_ble_eq_true rfl) rfl (fun Γ h f hmn => ?_)
  refine v_iload_n (i := 1) h 0 1 dX1_hasWay_0 rfl rfl ld1 ?_
  refine v_if_lt h 1 4 18 dX1_hasWay_1 rfl (by decide) (fun h1 => ?_) (fun h1 => ?_)
  · refine v_iconst (v := 0) h 18 19 dX1_hasWay_18 rfl (by decide) ?_
    refine v_zret h 19 f dX1_hasWay_19 rfl rfl (Nat.zero_le _) (Nat.zero_le _) ?_ ?_
    all_goals first | rfl | (simp only [h1, ↓reduceIte]; done) | (simp only [h1, ↓reduceIte]; rfl)
  · refine v_iload_n (i := 1) h 4 5 dX1_hasWay_4 rfl rfl ld1 ?_
    refine v_aload_n (i := 0) h 5 6 dX1_hasWay_5 rfl rfl ld0 ?_
    refine v_get h 6 9 dX1_hasWay_6 rfl fo_X1_32 pl_ln rfl ?_
    refine v_iconst (v := 1) h 9 10 dX1_hasWay_9 rfl (by decide) ?_
    refine v_isub h 10 11 dX1_hasWay_10 rfl ?_
    refine v_icmp_ge h 11 14 18 dX1_hasWay_11 rfl (by decide) (fun h11 => ?_) (fun h11 => ?_)
    · refine v_iconst (v := 0) h 18 19 dX1_hasWay_18 rfl (by decide) ?_
      refine v_zret h 19 f dX1_hasWay_19 rfl rfl (Nat.zero_le _) (Nat.zero_le _) ?_ ?_
      all_goals first | rfl | (simp only [h1, h11, ↓reduceIte]; done) | (simp only [h1, h11, ↓reduceIte]; rfl)
    · refine v_iconst (v := 1) h 14 15 dX1_hasWay_14 rfl (by decide) ?_
      refine v_goto h 15 19 dX1_hasWay_15 (by decide) ?_
      refine v_zret h 19 f dX1_hasWay_19 rfl rfl (Nat.zero_le _) (Nat.zero_le _) ?_ ?_
      all_goals first | rfl | (simp only [h1, h11, ↓reduceIte]; done) | (simp only [h1, h11, ↓reduceIte]; rfl)

set_option maxRecDepth 100000 in
set_option maxHeartbeats 4000000 in
theorem k_chairAt {E : EE} {B : Nat} {S : St} {w : Wo} (i : Int32) : Cd E mX1_chairAt (pl E B S w) [.ref B, .int i] (some (if i < 0 then .null else if S 7 ≤ i then .null else if nI 14 ≤ i then .null else .ref (B + 3 + i.toNatClampNeg))) (pl E B S w) := by
  refine Cd.of RX1 rfl (by decide) [some (.ref B), some (.int i)] (Nat.le_of_ble_eq_true rfl) rfl (fun Γ h f hmn => ?_)
  refine v_iload_n (i := 1) h 0 1 dX1_chairAt_0 rfl rfl ld1 ?_
  refine v_if_lt h 1 4 30 dX1_chairAt_1 rfl (by decide) (fun h1 => ?_) (fun h1 => ?_)
  · refine v_null h 30 31 dX1_chairAt_30 rfl ?_
    refine v_aret h 31 f dX1_chairAt_31 rfl (Or.inl rfl) (Nat.zero_le _) (Nat.zero_le _) ?_ ?_
    all_goals first | rfl | (simp only [h1, ↓reduceIte]; done) | (simp only [h1, ↓reduceIte]; rfl)
  · refine v_iload_n (i := 1) h 4 5 dX1_chairAt_4 rfl rfl ld1 ?_
    refine v_aload_n (i := 0) h 5 6 dX1_chairAt_5 rfl rfl ld0 ?_
    refine v_get h 6 9 dX1_chairAt_6 rfl fo_X1_39 pl_ln rfl ?_
    refine v_icmp_ge h 9 12 30 dX1_chairAt_9 rfl (by decide) (fun h9 => ?_) (fun h9 => ?_)
    · refine v_null h 30 31 dX1_chairAt_30 rfl ?_
      refine v_aret h 31 f dX1_chairAt_31 rfl (Or.inl rfl) (Nat.zero_le _) (Nat.zero_le _) ?_ ?_
      all_goals first | rfl | (simp only [h1, h9, ↓reduceIte]; done) | (simp only [h1, h9, ↓reduceIte]; rfl)
    · refine v_iload_n (i := 1) h 12 13 dX1_chairAt_12 rfl rfl ld1 ?_
      refine v_aload_n (i := 0) h 13 14 dX1_chairAt_13 rfl rfl ld0 ?_
      refine v_get h 14 17 dX1_chairAt_14 rfl fo_X1_17 pl_ln rfl ?_
      refine v_alen h 17 18 2 dX1_chairAt_17 rfl pl_cs rfl (v := nI 14) rfl ?_
      refine v_icmp_ge h 18 21 30 dX1_chairAt_18 rfl (by decide) (fun h18 => ?_) (fun h18 => ?_)
      · refine v_null h 30 31 dX1_chairAt_30 rfl ?_
        refine v_aret h 31 f dX1_chairAt_31 rfl (Or.inl rfl) (Nat.zero_le _) (Nat.zero_le _) ?_ ?_
        all_goals first | rfl | (simp only [h1, h9, h18, ↓reduceIte]; done) | (simp only [h1, h9, h18, ↓reduceIte]; rfl)
      · have hin : vp_in i 14 := vp_in_2 h1 h18 (by decide)
        refine v_aload_n (i := 0) h 21 22 dX1_chairAt_21 rfl rfl ld0 ?_
        refine v_get h 22 25 dX1_chairAt_22 rfl fo_X1_17 pl_ln rfl ?_
        refine v_iload_n (i := 1) h 25 26 dX1_chairAt_25 rfl rfl ld1 ?_
        refine v_aldC h 26 27 dX1_chairAt_26 rfl (by assumption) ?_
        refine v_goto h 27 31 dX1_chairAt_27 (by decide) ?_
        refine v_aret h 31 f dX1_chairAt_31 rfl (Or.inr ⟨_, rfl⟩) (Nat.zero_le _) (Nat.zero_le _) ?_ ?_
        all_goals first | rfl | (simp only [h1, h9, h18, ↓reduceIte]; done) | (simp only [h1, h9, h18, ↓reduceIte]; rfl)

set_option maxRecDepth 100000 in
set_option maxHeartbeats 4000000 in
theorem k_teamAt {E : EE} {B : Nat} {S : St} {w : Wo} (i : Int32) : Cd E mX1_teamAt (pl E B S w) [.ref B, .int i] (some (if i < 0 then .null else if S 8 ≤ i then .null else if nI 4 ≤ i then .null else .ref (B + 18 + i.toNatClampNeg))) (pl E B S w) := by
  refine Cd.of RX1 rfl (by decide) [some (.ref B), some (.int i)] (Nat.le_of_ble_eq_true rfl) rfl (fun Γ h f hmn => ?_)
  refine v_iload_n (i := 1) h 0 1 dX1_teamAt_0 rfl rfl ld1 ?_
  refine v_if_lt h 1 4 30 dX1_teamAt_1 rfl (by decide) (fun h1 => ?_) (fun h1 => ?_)
  · refine v_null h 30 31 dX1_teamAt_30 rfl ?_
    refine v_aret h 31 f dX1_teamAt_31 rfl (Or.inl rfl) (Nat.zero_le _) (Nat.zero_le _) ?_ ?_
    all_goals first | rfl | (simp only [h1, ↓reduceIte]; done) | (simp only [h1, ↓reduceIte]; rfl)
  · refine v_iload_n (i := 1) h 4 5 dX1_teamAt_4 rfl rfl ld1 ?_
    refine v_aload_n (i := 0) h 5 6 dX1_teamAt_5 rfl rfl ld0 ?_
    refine v_get h 6 9 dX1_teamAt_6 rfl fo_X1_42 pl_ln rfl ?_
    refine v_icmp_ge h 9 12 30 dX1_teamAt_9 rfl (by decide) (fun h9 => ?_) (fun h9 => ?_)
    · refine v_null h 30 31 dX1_teamAt_30 rfl ?_
      refine v_aret h 31 f dX1_teamAt_31 rfl (Or.inl rfl) (Nat.zero_le _) (Nat.zero_le _) ?_ ?_
      all_goals first | rfl | (simp only [h1, h9, ↓reduceIte]; done) | (simp only [h1, h9, ↓reduceIte]; rfl)
    · refine v_iload_n (i := 1) h 12 13 dX1_teamAt_12 rfl rfl ld1 ?_
      refine v_aload_n (i := 0) h 13 14 dX1_teamAt_13 rfl rfl ld0 ?_
      refine v_get h 14 17 dX1_teamAt_14 rfl fo_X1_24 pl_ln rfl ?_
      refine v_alen h 17 18 3 dX1_teamAt_17 rfl pl_ts rfl (v := nI 4) rfl ?_
      refine v_icmp_ge h 18 21 30 dX1_teamAt_18 rfl (by decide) (fun h18 => ?_) (fun h18 => ?_)
      · refine v_null h 30 31 dX1_teamAt_30 rfl ?_
        refine v_aret h 31 f dX1_teamAt_31 rfl (Or.inl rfl) (Nat.zero_le _) (Nat.zero_le _) ?_ ?_
        all_goals first | rfl | (simp only [h1, h9, h18, ↓reduceIte]; done) | (simp only [h1, h9, h18, ↓reduceIte]; rfl)
      · have hin : vp_in i 4 := vp_in_2 h1 h18 (by decide)
        refine v_aload_n (i := 0) h 21 22 dX1_teamAt_21 rfl rfl ld0 ?_
        refine v_get h 22 25 dX1_teamAt_22 rfl fo_X1_24 pl_ln rfl ?_
        refine v_iload_n (i := 1) h 25 26 dX1_teamAt_25 rfl rfl ld1 ?_
        refine v_aldT h 26 27 dX1_teamAt_26 rfl (by assumption) ?_
        refine v_goto h 27 31 dX1_teamAt_27 (by decide) ?_
        refine v_aret h 31 f dX1_teamAt_31 rfl (Or.inr ⟨_, rfl⟩) (Nat.zero_le _) (Nat.zero_le _) ?_ ?_
        all_goals first | rfl | (simp only [h1, h9, h18, ↓reduceIte]; done) | (simp only [h1, h9, h18, ↓reduceIte]; rfl)

set_option maxRecDepth 100000 in
set_option maxHeartbeats 4000000 in
theorem k_journalAt {E : EE} {B : Nat} {S : St} {w : Wo} (i : Int32) : Cd E mX1_journalAt (pl E B S w) [.ref B, .int i] (some (.int (if i < 0 then -1 else if S 12 ≤ i then -1 else if nI 14 ≤ i then -1 else S (157 + i.toNatClampNeg)))) (pl E B S w) := by
  refine Cd.of RX1 rfl (by decide) [some (.ref B), some (.int i)] (Nat.le_of_ble_eq_true rfl) rfl (fun Γ h f hmn => ?_)
  refine v_iload_n (i := 1) h 0 1 dX1_journalAt_0 rfl rfl ld1 ?_
  refine v_if_lt h 1 4 30 dX1_journalAt_1 rfl (by decide) (fun h1 => ?_) (fun h1 => ?_)
  · refine v_iconst (v := (-1)) h 30 31 dX1_journalAt_30 rfl (by decide) ?_
    refine v_iret h 31 f dX1_journalAt_31 rfl (Nat.zero_le _) (Nat.zero_le _) ?_ ?_
    all_goals first | rfl | (simp only [h1, ↓reduceIte]; done) | (simp only [h1, ↓reduceIte]; rfl)
  · refine v_iload_n (i := 1) h 4 5 dX1_journalAt_4 rfl rfl ld1 ?_
    refine v_aload_n (i := 0) h 5 6 dX1_journalAt_5 rfl rfl ld0 ?_
    refine v_get h 6 9 dX1_journalAt_6 rfl fo_X1_45 pl_ln rfl ?_
    refine v_icmp_ge h 9 12 30 dX1_journalAt_9 rfl (by decide) (fun h9 => ?_) (fun h9 => ?_)
    · refine v_iconst (v := (-1)) h 30 31 dX1_journalAt_30 rfl (by decide) ?_
      refine v_iret h 31 f dX1_journalAt_31 rfl (Nat.zero_le _) (Nat.zero_le _) ?_ ?_
      all_goals first | rfl | (simp only [h1, h9, ↓reduceIte]; done) | (simp only [h1, h9, ↓reduceIte]; rfl)
    · refine v_iload_n (i := 1) h 12 13 dX1_journalAt_12 rfl rfl ld1 ?_
      refine v_aload_n (i := 0) h 13 14 dX1_journalAt_13 rfl rfl ld0 ?_
      refine v_get h 14 17 dX1_journalAt_14 rfl fo_X1_29 pl_ln rfl ?_
      refine v_alen h 17 18 0 dX1_journalAt_17 rfl pl_em rfl (v := nI 14) rfl ?_
      refine v_icmp_ge h 18 21 30 dX1_journalAt_18 rfl (by decide) (fun h18 => ?_) (fun h18 => ?_)
      · refine v_iconst (v := (-1)) h 30 31 dX1_journalAt_30 rfl (by decide) ?_
        refine v_iret h 31 f dX1_journalAt_31 rfl (Nat.zero_le _) (Nat.zero_le _) ?_ ?_
        all_goals first | rfl | (simp only [h1, h9, h18, ↓reduceIte]; done) | (simp only [h1, h9, h18, ↓reduceIte]; rfl)
      · obtain ⟨j, hj, rfl⟩ := vp_in_of (vp_in_2 h1 h18 (by decide)) (by decide)
        rw [nI_clamp (by omega)] at f
        refine v_aload_n (i := 0) h 21 22 dX1_journalAt_21 rfl rfl ld0 ?_
        refine v_get h 22 25 dX1_journalAt_22 rfl fo_X1_29 pl_ln rfl ?_
        refine v_iload_n (i := 1) h 25 26 dX1_journalAt_25 rfl rfl ld1 ?_
        refine v_ildE h 26 27 _ dX1_journalAt_26 rfl (by omega) ?_
        refine v_goto h 27 31 dX1_journalAt_27 (by decide) ?_
        refine v_iret h 31 f dX1_journalAt_31 rfl (Nat.zero_le _) (Nat.zero_le _) ?_ ?_
        all_goals first | rfl | (simp only [h1, h9, h18, ↓reduceIte]; done) | (simp only [h1, h9, h18, ↓reduceIte]; rfl)

set_option maxRecDepth 100000 in
set_option maxHeartbeats 4000000 in
theorem k_wayBehind {E : EE} {B : Nat} {S : St} {w : Wo} (i : Int32) : Cd E mX1_wayBehind (pl E B S w) [.ref B, .int i] (some (.int (if i < 0 then 0 else if nI 6 ≤ i then 0 else S (1 + i.toNatClampNeg)))) (pl E B S w) := by
  refine Cd.of RX1 rfl (by decide) [some (.ref B), some (.int i)] (Nat.le_of_ble_eq_true rfl) rfl (fun Γ h f hmn => ?_)
  refine v_iload_n (i := 1) h 0 1 dX1_wayBehind_0 rfl rfl ld1 ?_
  refine v_if_lt h 1 4 22 dX1_wayBehind_1 rfl (by decide) (fun h1 => ?_) (fun h1 => ?_)
  · refine v_iconst (v := 0) h 22 23 dX1_wayBehind_22 rfl (by decide) ?_
    refine v_iret h 23 f dX1_wayBehind_23 rfl (Nat.zero_le _) (Nat.zero_le _) ?_ ?_
    all_goals first | rfl | (simp only [h1, ↓reduceIte]; done) | (simp only [h1, ↓reduceIte]; rfl)
  · refine v_iload_n (i := 1) h 4 5 dX1_wayBehind_4 rfl rfl ld1 ?_
    refine v_aload_n (i := 0) h 5 6 dX1_wayBehind_5 rfl rfl ld0 ?_
    refine v_get h 6 9 dX1_wayBehind_6 rfl fo_X1_9 pl_ln rfl ?_
    refine v_alen h 9 10 0 dX1_wayBehind_9 rfl pl_wy rfl (v := nI 6) rfl ?_
    refine v_icmp_ge h 10 13 22 dX1_wayBehind_10 rfl (by decide) (fun h10 => ?_) (fun h10 => ?_)
    · refine v_iconst (v := 0) h 22 23 dX1_wayBehind_22 rfl (by decide) ?_
      refine v_iret h 23 f dX1_wayBehind_23 rfl (Nat.zero_le _) (Nat.zero_le _) ?_ ?_
      all_goals first | rfl | (simp only [h1, h10, ↓reduceIte]; done) | (simp only [h1, h10, ↓reduceIte]; rfl)
    · obtain ⟨j, hj, rfl⟩ := vp_in_of (vp_in_2 h1 h10 (by decide)) (by decide)
      rw [nI_clamp (by omega)] at f
      refine v_aload_n (i := 0) h 13 14 dX1_wayBehind_13 rfl rfl ld0 ?_
      refine v_get h 14 17 dX1_wayBehind_14 rfl fo_X1_9 pl_ln rfl ?_
      refine v_iload_n (i := 1) h 17 18 dX1_wayBehind_17 rfl rfl ld1 ?_
      refine v_ildW h 18 19 _ dX1_wayBehind_18 rfl (by omega) ?_
      refine v_goto h 19 23 dX1_wayBehind_19 (by decide) ?_
      refine v_iret h 23 f dX1_wayBehind_23 rfl (Nat.zero_le _) (Nat.zero_le _) ?_ ?_
      all_goals first | rfl | (simp only [h1, h10, ↓reduceIte]; done) | (simp only [h1, h10, ↓reduceIte]; rfl)

set_option maxRecDepth 100000 in
set_option maxHeartbeats 4000000 in
theorem k_changeWay {E : EE} {B : Nat} {S : St} {w : Wo} (i : Nat) (x : Int32) (hi : i < 6) : Cd E mX1_changeWay (pl E B S w) [.ref B, .int (nI i), .int x] (none) (pl E B (upd S (1 + i) x) w) := by
  refine Cd.of RX1 rfl (by decide) [some (.ref B), some (.int (nI i)), some (.int x)] (Nat.le_of_ble_eq_true rfl) rfl (fun Γ h f hmn => ?_)
  refine v_iload_n (i := 1) h 0 1 dX1_changeWay_0 rfl rfl ld1 ?_
  refine v_if_lt h 1 4 20 dX1_changeWay_1 rfl (by decide) (fun h1 => absurd h1 (nI_pos (by omega))) (fun h1 => ?_)
  refine v_iload_n (i := 1) h 4 5 dX1_changeWay_4 rfl rfl ld1 ?_
  refine v_aload_n (i := 0) h 5 6 dX1_changeWay_5 rfl rfl ld0 ?_
  refine v_get h 6 9 dX1_changeWay_6 rfl fo_X1_9 pl_ln rfl ?_
  refine v_alen h 9 10 0 dX1_changeWay_9 rfl pl_wy rfl (v := nI 6) rfl ?_
  refine v_icmp_ge h 10 13 20 dX1_changeWay_10 rfl (by decide) (fun h10 => absurd h10 (nI_ge hi (by decide))) (fun h10 => ?_)
  refine v_aload_n (i := 0) h 13 14 dX1_changeWay_13 rfl rfl ld0 ?_
  refine v_get h 14 17 dX1_changeWay_14 rfl fo_X1_9 pl_ln rfl ?_
  refine v_iload_n (i := 1) h 17 18 dX1_changeWay_17 rfl rfl ld1 ?_
  refine v_iload_n (i := 2) h 18 19 dX1_changeWay_18 rfl rfl ld2 ?_
  refine v_istW h 19 20 _ dX1_changeWay_19 rfl (by omega) ?_
  exact v_ret h 20 f dX1_changeWay_20 rfl (Nat.zero_le _) (Nat.zero_le _) rfl rfl

theorem if3 {α : Type} {a b c : Prop} [Decidable a] [Decidable b] [Decidable c] {x y : α} (h1 : ¬ a) (h2 : ¬ b) (h3 : ¬ c) : (if a then x else if b then x else if c then x else y) = y := by rw [if_neg h1, if_neg h2, if_neg h3]
theorem if3n {α : Type} {a b c : Prop} [Decidable a] [Decidable b] [Decidable c] {x y : α} (h : a ∨ b ∨ c) : (if a then x else if b then x else if c then x else y) = x := by
  by_cases ha : a
  · rw [if_pos ha]
  · rw [if_neg ha]
    by_cases hb : b
    · rw [if_pos hb]
    · rw [if_neg hb, if_pos ((h.resolve_left ha).resolve_left hb)]
/-- a line with so many chairs and teams -/
def Ct (S : St) (nc nt : Nat) : Prop := S 7 = nI nc ∧ S 8 = nI nt ∧ nc ≤ 14 ∧ nt ≤ 4
theorem k_chairSome {E : EE} {B : Nat} {S : St} {w : Wo} {c nc nt : Nat} (hn : Ct S nc nt) (hc : c < nc) : Cd E mX1_chairAt (pl E B S w) [.ref B, .int (nI c)] (some (.ref (B + 3 + c))) (pl E B S w) := by
  have h := k_chairAt (E := E) (B := B) (S := S) (w := w) (nI c)
  have := hn.2.2.1
  rw [if3 (nI_pos (by omega)) (by rw [hn.1]; exact nI_ge hc (by omega)) (nI_ge (by omega) (by decide)), nI_clamp (by omega)] at h
  exact h
theorem k_chairNone {E : EE} {B : Nat} {S : St} {w : Wo} {i : Int32} (h : i < 0 ∨ S 7 ≤ i) : Cd E mX1_chairAt (pl E B S w) [.ref B, .int i] (some .null) (pl E B S w) := by
  have h1 := k_chairAt (E := E) (B := B) (S := S) (w := w) i
  rw [if3n (h.elim Or.inl (fun h => Or.inr (Or.inl h)))] at h1
  exact h1
theorem k_teamSome {E : EE} {B : Nat} {S : St} {w : Wo} {c nc nt : Nat} (hn : Ct S nc nt) (hc : c < nt) : Cd E mX1_teamAt (pl E B S w) [.ref B, .int (nI c)] (some (.ref (B + 18 + c))) (pl E B S w) := by
  have h := k_teamAt (E := E) (B := B) (S := S) (w := w) (nI c)
  have := hn.2.2.2
  rw [if3 (nI_pos (by omega)) (by rw [hn.2.1]; exact nI_ge hc (by omega)) (nI_ge (by omega) (by decide)), nI_clamp (by omega)] at h
  exact h
theorem k_teamNone {E : EE} {B : Nat} {S : St} {w : Wo} {i : Int32} (h : i < 0 ∨ S 8 ≤ i) : Cd E mX1_teamAt (pl E B S w) [.ref B, .int i] (some .null) (pl E B S w) := by
  have h1 := k_teamAt (E := E) (B := B) (S := S) (w := w) i
  rw [if3n (h.elim Or.inl (fun h => Or.inr (Or.inl h)))] at h1
  exact h1
theorem k_wayB {E : EE} {B : Nat} {S : St} {w : Wo} {i : Nat} (hi : i < 6) : Cd E mX1_wayBehind (pl E B S w) [.ref B, .int (nI i)] (some (.int (S (1 + i)))) (pl E B S w) := by
  have h := k_wayBehind (E := E) (B := B) (S := S) (w := w) (nI i)
  rw [if_neg (nI_pos (by omega)), if_neg (nI_ge hi (by decide)), nI_clamp (by omega)] at h
  exact h

def waitS (S : St) (c : Nat) : St := upd (upd S (13 + 8 * c + 4) 0) (13 + 8 * c + 5) (-1)
def idleS (S : St) (t : Nat) : St := upd (upd (upd S (125 + 8 * t + 2) 0) (125 + 8 * t + 3) 0) (125 + 8 * t + 4) (-1)
def rkS (S : St) (c : Nat) : Int32 := if S (13 + 8 * c + 3) = 0 then S (13 + 8 * c + 2) else S (13 + 8 * c + 2) + 3
def hangS (S : St) (c : Nat) (sp ri co ch : Int32) : St := waitS (upd (upd (upd (upd (upd (upd S (13 + 8 * c + 0) sp) (13 + 8 * c + 1) ri) (13 + 8 * c + 2) co) (13 + 8 * c + 3) ch) (13 + 8 * c + 6) (-1)) (13 + 8 * c + 7) (-1)) c
def standS (S : St) (t : Nat) (sp ti : Int32) : St := idleS (upd (upd (upd (upd (upd S (125 + 8 * t + 0) sp) (125 + 8 * t + 1) ti) (125 + 8 * t + 5) 0) (125 + 8 * t + 6) 0) (125 + 8 * t + 7) 0) t
set_option maxRecDepth 100000 in
set_option maxHeartbeats 4000000 in
theorem k_waitAgain {E : EE} {B : Nat} {S : St} {w : Wo} {c : Nat} (hc : c < 14) : Cd E mX0_waitAgain (pl E B S w) [.ref (B + 3 + c)] (none) (pl E B (waitS S c) w) := by
  refine Cd.of RX0 rfl (by decide) [some (.ref (B + 3 + c))] (Nat.le_of_ble_eq_true rfl) rfl (fun Γ h f hmn => ?_)
  refine v_aload_n (i := 0) h 0 1 dX0_waitAgain_0 rfl rfl ld0 ?_
  refine v_iconst (v := 0) h 1 2 dX0_waitAgain_1 rfl (by decide) ?_
  refine v_putCh h 2 5 dX0_waitAgain_2 rfl fw_X0_34 (by assumption) (by decide) ?_
  refine v_aload_n (i := 0) h 5 6 dX0_waitAgain_5 rfl rfl ld0 ?_
  refine v_iconst (v := (-1)) h 6 7 dX0_waitAgain_6 rfl (by decide) ?_
  refine v_putCh h 7 10 dX0_waitAgain_7 rfl fw_X0_37 (by assumption) (by decide) ?_
  exact v_ret h 10 f dX0_waitAgain_10 rfl (Nat.zero_le _) (Nat.zero_le _) rfl rfl

set_option maxRecDepth 100000 in
set_option maxHeartbeats 4000000 in
theorem k_hang {E : EE} {B : Nat} {S : St} {w : Wo} {c : Nat} (hc : c < 14) (sp ri co ch : Int32) (hz : ch = 0 ∨ ch = 1) : Cd E mX0_hang (pl E B S w) [.ref (B + 3 + c), .int sp, .int ri, .int co, .int ch] (none) (pl E B (hangS S c sp ri co ch) w) := by
  refine Cd.of RX0 rfl (by decide) [some (.ref (B + 3 + c)), some (.int sp), some (.int ri), some (.int co), some (.int ch)] (Nat.le_of_ble_eq_true rfl) rfl (fun Γ h f hmn => ?_)
  refine v_aload_n (i := 0) h 0 1 dX0_hang_0 rfl rfl ld0 ?_
  refine v_iload_n (i := 1) h 1 2 dX0_hang_1 rfl rfl ld1 ?_
  refine v_putCh h 2 5 dX0_hang_2 rfl fw_X0_9 (by assumption) (by decide) ?_
  refine v_aload_n (i := 0) h 5 6 dX0_hang_5 rfl rfl ld0 ?_
  refine v_iload_n (i := 2) h 6 7 dX0_hang_6 rfl rfl ld2 ?_
  refine v_putCh h 7 10 dX0_hang_7 rfl fw_X0_15 (by assumption) (by decide) ?_
  refine v_aload_n (i := 0) h 10 11 dX0_hang_10 rfl rfl ld0 ?_
  refine v_iload_n (i := 3) h 11 12 dX0_hang_11 rfl rfl ld3 ?_
  refine v_putCh h 12 15 dX0_hang_12 rfl fw_X0_18 (by assumption) (by decide) ?_
  refine v_aload_n (i := 0) h 15 16 dX0_hang_15 rfl rfl ld0 ?_
  refine v_iload (i := 4) h 16 18 dX0_hang_16 rfl ld4 ?_
  refine v_putChZ h 18 21 dX0_hang_18 rfl fw_X0_21 (by assumption) (by assumption) ?_
  refine v_aload_n (i := 0) h 21 22 dX0_hang_21 rfl rfl ld0 ?_
  refine v_iconst (v := (-1)) h 22 23 dX0_hang_22 rfl (by decide) ?_
  refine v_putCh h 23 26 dX0_hang_23 rfl fw_X0_25 (by assumption) (by decide) ?_
  refine v_aload_n (i := 0) h 26 27 dX0_hang_26 rfl rfl ld0 ?_
  refine v_iconst (v := (-1)) h 27 28 dX0_hang_27 rfl (by decide) ?_
  refine v_putCh h 28 31 dX0_hang_28 rfl fw_X0_28 (by assumption) (by decide) ?_
  refine v_aload_n (i := 0) h 31 32 dX0_hang_31 rfl rfl ld0 ?_
  refine v_callV0 h 32 35 dX0_hang_32 rfl cb_X0_waitAgain cv_X0_waitAgain (pl_ch (by assumption)) lk_X0_31 (rok (by decide) (by decide)) ⟨rfl, rfl⟩ ⟨Nat.zero_le _, Nat.zero_le _⟩ (k_waitAgain hc) rfl rfl (Nat.le_of_ble_eq_true rfl) ?_
  exact v_ret h 35 f dX0_hang_35 rfl (Nat.zero_le _) (Nat.zero_le _) rfl rfl

set_option maxRecDepth 100000 in
set_option maxHeartbeats 4000000 in
theorem k_rank {E : EE} {B : Nat} {S : St} {w : Wo} {c : Nat} (hc : c < 14) : Cd E mX0_rank (pl E B S w) [.ref (B + 3 + c)] (some (.int (rkS S c))) (pl E B S w) := by
  refine Cd.of RX0 rfl (by decide) [some (.ref (B + 3 + c))] (Nat.le_of_ble_eq_true rfl) rfl (fun Γ h f hmn => ?_)
  refine v_aload_n (i := 0) h 0 1 dX0_rank_0 rfl rfl ld0 ?_
  refine v_get h 1 4 dX0_rank_1 rfl fo_X0_21 (pl_ch (by assumption)) rfl ?_
  refine v_if_eq h 4 7 16 dX0_rank_4 rfl (by decide) (fun h4 => ?_) (fun h4 => ?_)
  · refine v_aload_n (i := 0) h 16 17 dX0_rank_16 rfl rfl ld0 ?_
    refine v_get h 17 20 dX0_rank_17 rfl fo_X0_18 (pl_ch (by assumption)) rfl ?_
    refine v_iret h 20 f dX0_rank_20 rfl (Nat.zero_le _) (Nat.zero_le _) ?_ ?_
    all_goals first | rfl | (simp only [rkS, h4, ↓reduceIte]; done)
  · refine v_aload_n (i := 0) h 7 8 dX0_rank_7 rfl rfl ld0 ?_
    refine v_get h 8 11 dX0_rank_8 rfl fo_X0_18 (pl_ch (by assumption)) rfl ?_
    refine v_iconst (v := 3) h 11 12 dX0_rank_11 rfl (by decide) ?_
    refine v_iadd h 12 13 dX0_rank_12 rfl ?_
    refine v_goto h 13 20 dX0_rank_13 (by decide) ?_
    refine v_iret h 20 f dX0_rank_20 rfl (Nat.zero_le _) (Nat.zero_le _) ?_ ?_
    all_goals first | rfl | (simp only [rkS, h4, ↓reduceIte]; done)

set_option maxRecDepth 100000 in
set_option maxHeartbeats 4000000 in
theorem k_beIdle {E : EE} {B : Nat} {S : St} {w : Wo} {c : Nat} (hc : c < 4) : Cd E mX2_beIdle (pl E B S w) [.ref (B + 18 + c)] (none) (pl E B (idleS S c) w) := by
  refine Cd.of RX2 rfl (by decide) [some (.ref (B + 18 + c))] (Nat.le_of_ble_eq_true rfl) rfl (fun Γ h f hmn => ?_)
  refine v_aload_n (i := 0) h 0 1 dX2_beIdle_0 rfl rfl ld0 ?_
  refine v_iconst (v := 0) h 1 2 dX2_beIdle_1 rfl (by decide) ?_
  refine v_putTm h 2 5 dX2_beIdle_2 rfl fw_X2_30 (by assumption) (by decide) ?_
  refine v_aload_n (i := 0) h 5 6 dX2_beIdle_5 rfl rfl ld0 ?_
  refine v_iconst (v := 0) h 6 7 dX2_beIdle_6 rfl (by decide) ?_
  refine v_putTm h 7 10 dX2_beIdle_7 rfl fw_X2_33 (by assumption) (by decide) ?_
  refine v_aload_n (i := 0) h 10 11 dX2_beIdle_10 rfl rfl ld0 ?_
  refine v_iconst (v := (-1)) h 11 12 dX2_beIdle_11 rfl (by decide) ?_
  refine v_putTm h 12 15 dX2_beIdle_12 rfl fw_X2_36 (by assumption) (by decide) ?_
  exact v_ret h 15 f dX2_beIdle_15 rfl (Nat.zero_le _) (Nat.zero_le _) rfl rfl

set_option maxRecDepth 100000 in
set_option maxHeartbeats 4000000 in
theorem k_stand {E : EE} {B : Nat} {S : St} {w : Wo} {c : Nat} (hc : c < 4) (sp ti : Int32) : Cd E mX2_stand (pl E B S w) [.ref (B + 18 + c), .int sp, .int ti] (none) (pl E B (standS S c sp ti) w) := by
  refine Cd.of RX2 rfl (by decide) [some (.ref (B + 18 + c)), some (.int sp), some (.int ti)] (Nat.le_of_ble_eq_true rfl) rfl (fun Γ h f hmn => ?_)
  refine v_aload_n (i := 0) h 0 1 dX2_stand_0 rfl rfl ld0 ?_
  refine v_iload_n (i := 1) h 1 2 dX2_stand_1 rfl rfl ld1 ?_
  refine v_putTm h 2 5 dX2_stand_2 rfl fw_X2_9 (by assumption) (by decide) ?_
  refine v_aload_n (i := 0) h 5 6 dX2_stand_5 rfl rfl ld0 ?_
  refine v_iload_n (i := 2) h 6 7 dX2_stand_6 rfl rfl ld2 ?_
  refine v_putTm h 7 10 dX2_stand_7 rfl fw_X2_15 (by assumption) (by decide) ?_
  refine v_aload_n (i := 0) h 10 11 dX2_stand_10 rfl rfl ld0 ?_
  refine v_iconst (v := 0) h 11 12 dX2_stand_11 rfl (by decide) ?_
  refine v_putTm h 12 15 dX2_stand_12 rfl fw_X2_18 (by assumption) (by decide) ?_
  refine v_aload_n (i := 0) h 15 16 dX2_stand_15 rfl rfl ld0 ?_
  refine v_iconst (v := 0) h 16 17 dX2_stand_16 rfl (by decide) ?_
  refine v_putTm h 17 20 dX2_stand_17 rfl fw_X2_21 (by assumption) (by decide) ?_
  refine v_aload_n (i := 0) h 20 21 dX2_stand_20 rfl rfl ld0 ?_
  refine v_iconst (v := 0) h 21 22 dX2_stand_21 rfl (by decide) ?_
  refine v_putTm h 22 25 dX2_stand_22 rfl fw_X2_24 (by assumption) (by decide) ?_
  refine v_aload_n (i := 0) h 25 26 dX2_stand_25 rfl rfl ld0 ?_
  refine v_callV0 h 26 29 dX2_stand_26 rfl cb_X2_beIdle cv_X2_beIdle (pl_tm (by assumption)) lk_X2_27 (rok (by decide) (by decide)) ⟨rfl, rfl⟩ ⟨Nat.zero_le _, Nat.zero_le _⟩ (k_beIdle hc) rfl rfl (Nat.le_of_ble_eq_true rfl) ?_
  exact v_ret h 29 f dX2_stand_29 rfl (Nat.zero_le _) (Nat.zero_le _) rfl rfl
