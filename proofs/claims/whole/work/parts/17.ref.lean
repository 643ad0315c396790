/-! THE REFERENCE, piece by piece -/
set_option maxRecDepth 100000 in
set_option maxHeartbeats 4000000 in
theorem k_in {E : EE} {w : Wo} (v a b : Int32) : Cd E mX4_in (w) [.int v, .int a, .int b] (some (.int (if v < a then 0 else if b < v then 0 else 1))) (w) := by
  refine Cd.of RX4 rfl (by decide) [some (.int v), some (.int a), some (.int b)] (Nat.le_of_ble_eq_true rfl) rfl (fun Γ h f hmn => ?_)
  refine v_iload_n (i := 0) h 0 1 dX4_in_0 rfl rfl ld0 ?_
  refine v_iload_n (i := 1) h 1 2 dX4_in_1 rfl rfl ld1 ?_
  refine v_icmp_lt h 2 5 14 dX4_in_2 rfl (by decide) (fun h2 => ?_) (fun h2 => ?_)
  · refine v_iconst (v := 0) h 14 15 dX4_in_14 rfl (by decide) ?_
    refine v_zret h 15 f dX4_in_15 rfl rfl (Nat.zero_le _) (Nat.zero_le _) ?_ ?_
    all_goals first | rfl | (rw [if_pos h2]; done)
  · refine v_iload_n (i := 0) h 5 6 dX4_in_5 rfl rfl ld0 ?_
    refine v_iload_n (i := 2) h 6 7 dX4_in_6 rfl rfl ld2 ?_
    refine v_icmp_gt h 7 10 14 dX4_in_7 rfl (by decide) (fun h7 => ?_) (fun h7 => ?_)
    · refine v_iconst (v := 0) h 14 15 dX4_in_14 rfl (by decide) ?_
      refine v_zret h 15 f dX4_in_15 rfl rfl (Nat.zero_le _) (Nat.zero_le _) ?_ ?_
      all_goals first | rfl | (rw [if_neg h2, if_pos h7]; done)
    · refine v_iconst (v := 1) h 10 11 dX4_in_10 rfl (by decide) ?_
      refine v_goto h 11 15 dX4_in_11 (by decide) ?_
      refine v_zret h 15 f dX4_in_15 rfl rfl (Nat.zero_le _) (Nat.zero_le _) ?_ ?_
      all_goals first | rfl | (rw [if_neg h2, if_neg h7]; done)

set_option maxRecDepth 100000 in
set_option maxHeartbeats 4000000 in
theorem k_fails {E : EE} {D : Nat} {S : St} {Ps : Nat → St} {A K T N I : St} {hh : Int64} {w : Wo} (p : Int32) : Cd E mX4_fails (ml E D S Ps A K T N I hh w) [.ref D, .int p] (some (.int 0)) (ml E D S Ps A K T N (upd I 2 p) hh w) := by
  refine Cd.of RX4 rfl (by decide) [some (.ref D), some (.int p)] (Nat.le_of_ble_eq_true rfl) rfl (fun Γ h f hmn => ?_)
  refine v_aload_n (i := 0) h 0 1 dX4_fails_0 rfl rfl ld0 ?_
  refine v_iload_n (i := 1) h 1 2 dX4_fails_1 rfl rfl ld1 ?_
  refine v_putM7 h 2 5 dX4_fails_2 rfl fw_X4_28 ?_
  refine v_iconst (v := 0) h 5 6 dX4_fails_5 rfl (by decide) ?_
  exact v_iret h 6 f dX4_fails_6 rfl (Nat.zero_le _) (Nat.zero_le _) rfl rfl

set_option maxRecDepth 100000 in
set_option maxHeartbeats 4000000 in
theorem k_tells {E : EE} {D : Nat} {S : St} {Ps : Nat → St} {A K T N I : St} {hh : Int64} {w : Wo} (p : Int32) : Cd E mX4_tells (ml E D S Ps A K T N I hh w) [.ref D, .int p] (some (.int p)) (ml E D S Ps A K T N (upd I 2 0) hh w) := by
  refine Cd.of RX4 rfl (by decide) [some (.ref D), some (.int p)] (Nat.le_of_ble_eq_true rfl) rfl (fun Γ h f hmn => ?_)
  refine v_aload_n (i := 0) h 0 1 dX4_tells_0 rfl rfl ld0 ?_
  refine v_iconst (v := 0) h 1 2 dX4_tells_1 rfl (by decide) ?_
  refine v_putM7 h 2 5 dX4_tells_2 rfl fw_X4_28 ?_
  refine v_iload_n (i := 1) h 5 6 dX4_tells_5 rfl rfl ld1 ?_
  exact v_iret h 6 f dX4_tells_6 rfl (Nat.zero_le _) (Nat.zero_le _) rfl rfl

set_option maxRecDepth 100000 in
set_option maxHeartbeats 4000000 in
theorem k_thrown {E : EE} {D : Nat} {S : St} {Ps : Nat → St} {A K T N I : St} {hh : Int64} {w : Wo} : Cd E mX4_thrown (ml E D S Ps A K T N I hh w) [.ref D] (some (.int (I 2))) (ml E D S Ps A K T N I hh w) := by
  refine Cd.of RX4 rfl (by decide) [some (.ref D)] (Nat.le_of_ble_eq_true rfl) rfl (fun Γ h f hmn => ?_)
  refine v_aload_n (i := 0) h 0 1 dX4_thrown_0 rfl rfl ld0 ?_
  refine v_get h 1 4 dX4_thrown_1 rfl fo_X4_28 ml_ob rfl ?_
  exact v_iret h 4 f dX4_thrown_4 rfl (Nat.zero_le _) (Nat.zero_le _) rfl rfl

set_option maxRecDepth 100000 in
set_option maxHeartbeats 4000000 in
theorem k_isSpan {E : EE} {D : Nat} {S : St} {Ps : Nat → St} {A K T N I : St} {hh : Int64} {w : Wo} (i : Int32) : Cd E mX4_isSpan (ml E D S Ps A K T N I hh w) [.ref D, .int i] (some (.int (if i < 0 then 0 else if S 0 ≤ i then 0 else 1))) (ml E D S Ps A K T N I hh w) := by
  refine Cd.of RX4 rfl (by decide) [some (.ref D), some (.int i)] (Nat.le_of_ble_eq_true rfl) rfl (fun Γ h f hmn => ?_)
  refine v_iload_n (i := 1) h 0 1 dX4_isSpan_0 rfl rfl ld1 ?_
  refine v_if_lt h 1 4 18 dX4_isSpan_1 rfl (by decide) (fun h1 => ?_) (fun h1 => ?_)
  · refine v_iconst (v := 0) h 18 19 dX4_isSpan_18 rfl (by decide) ?_
    refine v_zret h 19 f dX4_isSpan_19 rfl rfl (Nat.zero_le _) (Nat.zero_le _) ?_ ?_
    all_goals first | rfl | (rw [if_pos h1]; done)
  · refine v_iload_n (i := 1) h 4 5 dX4_isSpan_4 rfl rfl ld1 ?_
    refine v_aload_n (i := 0) h 5 6 dX4_isSpan_5 rfl rfl ld0 ?_
    refine v_get h 6 9 dX4_isSpan_6 rfl fo_X4_7 ml_ob rfl ?_
    refine v_iconst (v := nI 0) h 9 10 dX4_isSpan_9 rfl (by decide) ?_
    refine v_ildSm h 10 11 _ dX4_isSpan_10 rfl (by omega) ?_
    refine v_icmp_ge h 11 14 18 dX4_isSpan_11 rfl (by decide) (fun h11 => ?_) (fun h11 => ?_)
    · refine v_iconst (v := 0) h 18 19 dX4_isSpan_18 rfl (by decide) ?_
      refine v_zret h 19 f dX4_isSpan_19 rfl rfl (Nat.zero_le _) (Nat.zero_le _) ?_ ?_
      all_goals first | rfl | (rw [if_neg h1, if_pos h11]; done)
    · refine v_iconst (v := 1) h 14 15 dX4_isSpan_14 rfl (by decide) ?_
      refine v_goto h 15 19 dX4_isSpan_15 (by decide) ?_
      refine v_zret h 19 f dX4_isSpan_19 rfl rfl (Nat.zero_le _) (Nat.zero_le _) ?_ ?_
      all_goals first | rfl | (rw [if_neg h1, if_neg h11]; done)

set_option maxRecDepth 100000 in
set_option maxHeartbeats 4000000 in
theorem k_isChair {E : EE} {D : Nat} {S : St} {Ps : Nat → St} {A K T N I : St} {hh : Int64} {w : Wo} (i : Int32) : Cd E mX4_isChair (ml E D S Ps A K T N I hh w) [.ref D, .int i] (some (.int (if i < 0 then 0 else if S 7 ≤ i then 0 else 1))) (ml E D S Ps A K T N I hh w) := by
  refine Cd.of RX4 rfl (by decide) [some (.ref D), some (.int i)] (Nat.le_of_ble_eq_true rfl) rfl (fun Γ h f hmn => ?_)
  refine v_iload_n (i := 1) h 0 1 dX4_isChair_0 rfl rfl ld1 ?_
  refine v_if_lt h 1 4 19 dX4_isChair_1 rfl (by decide) (fun h1 => ?_) (fun h1 => ?_)
  · refine v_iconst (v := 0) h 19 20 dX4_isChair_19 rfl (by decide) ?_
    refine v_zret h 20 f dX4_isChair_20 rfl rfl (Nat.zero_le _) (Nat.zero_le _) ?_ ?_
    all_goals first | rfl | (rw [if_pos h1]; done)
  · refine v_iload_n (i := 1) h 4 5 dX4_isChair_4 rfl rfl ld1 ?_
    refine v_aload_n (i := 0) h 5 6 dX4_isChair_5 rfl rfl ld0 ?_
    refine v_get h 6 9 dX4_isChair_6 rfl fo_X4_7 ml_ob rfl ?_
    refine v_bipush (v := nI 7) h 9 11 dX4_isChair_9 rfl (by decide) ?_
    refine v_ildSm h 11 12 _ dX4_isChair_11 rfl (by omega) ?_
    refine v_icmp_ge h 12 15 19 dX4_isChair_12 rfl (by decide) (fun h12 => ?_) (fun h12 => ?_)
    · refine v_iconst (v := 0) h 19 20 dX4_isChair_19 rfl (by decide) ?_
      refine v_zret h 20 f dX4_isChair_20 rfl rfl (Nat.zero_le _) (Nat.zero_le _) ?_ ?_
      all_goals first | rfl | (rw [if_neg h1, if_pos h12]; done)
    · refine v_iconst (v := 1) h 15 16 dX4_isChair_15 rfl (by decide) ?_
      refine v_goto h 16 20 dX4_isChair_16 (by decide) ?_
      refine v_zret h 20 f dX4_isChair_20 rfl rfl (Nat.zero_le _) (Nat.zero_le _) ?_ ?_
      all_goals first | rfl | (rw [if_neg h1, if_neg h12]; done)

set_option maxRecDepth 100000 in
set_option maxHeartbeats 4000000 in
theorem k_isTeam {E : EE} {D : Nat} {S : St} {Ps : Nat → St} {A K T N I : St} {hh : Int64} {w : Wo} (i : Int32) : Cd E mX4_isTeam (ml E D S Ps A K T N I hh w) [.ref D, .int i] (some (.int (if i < 0 then 0 else if S 8 ≤ i then 0 else 1))) (ml E D S Ps A K T N I hh w) := by
  refine Cd.of RX4 rfl (by decide) [some (.ref D), some (.int i)] (Nat.le_of_ble_eq_true rfl) rfl (fun Γ h f hmn => ?_)
  refine v_iload_n (i := 1) h 0 1 dX4_isTeam_0 rfl rfl ld1 ?_
  refine v_if_lt h 1 4 19 dX4_isTeam_1 rfl (by decide) (fun h1 => ?_) (fun h1 => ?_)
  · refine v_iconst (v := 0) h 19 20 dX4_isTeam_19 rfl (by decide) ?_
    refine v_zret h 20 f dX4_isTeam_20 rfl rfl (Nat.zero_le _) (Nat.zero_le _) ?_ ?_
    all_goals first | rfl | (rw [if_pos h1]; done)
  · refine v_iload_n (i := 1) h 4 5 dX4_isTeam_4 rfl rfl ld1 ?_
    refine v_aload_n (i := 0) h 5 6 dX4_isTeam_5 rfl rfl ld0 ?_
    refine v_get h 6 9 dX4_isTeam_6 rfl fo_X4_7 ml_ob rfl ?_
    refine v_bipush (v := nI 8) h 9 11 dX4_isTeam_9 rfl (by decide) ?_
    refine v_ildSm h 11 12 _ dX4_isTeam_11 rfl (by omega) ?_
    refine v_icmp_ge h 12 15 19 dX4_isTeam_12 rfl (by decide) (fun h12 => ?_) (fun h12 => ?_)
    · refine v_iconst (v := 0) h 19 20 dX4_isTeam_19 rfl (by decide) ?_
      refine v_zret h 20 f dX4_isTeam_20 rfl rfl (Nat.zero_le _) (Nat.zero_le _) ?_ ?_
      all_goals first | rfl | (rw [if_neg h1, if_pos h12]; done)
    · refine v_iconst (v := 1) h 15 16 dX4_isTeam_15 rfl (by decide) ?_
      refine v_goto h 16 20 dX4_isTeam_16 (by decide) ?_
      refine v_zret h 20 f dX4_isTeam_20 rfl rfl (Nat.zero_le _) (Nat.zero_le _) ?_ ?_
      all_goals first | rfl | (rw [if_neg h1, if_neg h12]; done)

set_option maxRecDepth 100000 in
set_option maxHeartbeats 4000000 in
theorem k_of {E : EE} {D : Nat} {S : St} {Ps : Nat → St} {A K T N I : St} {hh : Int64} {w : Wo} {c k : Nat} (hc : c < 14) (hk : k < 8) : Cd E mX4_of (ml E D S Ps A K T N I hh w) [.ref D, .int (nI c), .int (nI k)] (some (.int (S (13 + 8 * c + k)))) (ml E D S Ps A K T N I hh w) := by
  refine Cd.of RX4 rfl (by decide) [some (.ref D), some (.int (nI c)), some (.int (nI k))] (Nat.le_of_ble_eq_true rfl) rfl (fun Γ h f hmn => ?_)
  refine v_aload_n (i := 0) h 0 1 dX4_of_0 rfl rfl ld0 ?_
  refine v_get h 1 4 dX4_of_1 rfl fo_X4_7 ml_ob rfl ?_
  refine v_bipush (v := nI 13) h 4 6 dX4_of_4 rfl (by decide) ?_
  refine v_bipush (v := nI 8) h 6 8 dX4_of_6 rfl (by decide) ?_
  refine v_iload_n (i := 1) h 8 9 dX4_of_8 rfl rfl ld1 ?_
  refine v_imul h 9 10 dX4_of_9 rfl ?_
  refine v_iadd h 10 11 dX4_of_10 rfl ?_
  refine v_iload_n (i := 2) h 11 12 dX4_of_11 rfl rfl ld2 ?_
  refine v_iadd h 12 13 dX4_of_12 rfl ?_
  rw [pk_mul, nI_add, nI_add]
  refine v_ildSm h 13 14 _ dX4_of_13 rfl (by omega) ?_
  exact v_iret h 14 f dX4_of_14 rfl (Nat.zero_le _) (Nat.zero_le _) rfl rfl

set_option maxRecDepth 100000 in
set_option maxHeartbeats 4000000 in
theorem k_ofTeam {E : EE} {D : Nat} {S : St} {Ps : Nat → St} {A K T N I : St} {hh : Int64} {w : Wo} {c k : Nat} (hc : c < 4) (hk : k < 8) : Cd E mX4_ofTeam (ml E D S Ps A K T N I hh w) [.ref D, .int (nI c), .int (nI k)] (some (.int (S (125 + 8 * c + k)))) (ml E D S Ps A K T N I hh w) := by
  refine Cd.of RX4 rfl (by decide) [some (.ref D), some (.int (nI c)), some (.int (nI k))] (Nat.le_of_ble_eq_true rfl) rfl (fun Γ h f hmn => ?_)
  refine v_aload_n (i := 0) h 0 1 dX4_ofTeam_0 rfl rfl ld0 ?_
  refine v_get h 1 4 dX4_ofTeam_1 rfl fo_X4_7 ml_ob rfl ?_
  refine v_bipush (v := nI 125) h 4 6 dX4_ofTeam_4 rfl (by decide) ?_
  refine v_bipush (v := nI 8) h 6 8 dX4_ofTeam_6 rfl (by decide) ?_
  refine v_iload_n (i := 1) h 8 9 dX4_ofTeam_8 rfl rfl ld1 ?_
  refine v_imul h 9 10 dX4_ofTeam_9 rfl ?_
  refine v_iadd h 10 11 dX4_ofTeam_10 rfl ?_
  refine v_iload_n (i := 2) h 11 12 dX4_ofTeam_11 rfl rfl ld2 ?_
  refine v_iadd h 12 13 dX4_ofTeam_12 rfl ?_
  rw [pk_mul, nI_add, nI_add]
  refine v_ildSm h 13 14 _ dX4_ofTeam_13 rfl (by omega) ?_
  exact v_iret h 14 f dX4_ofTeam_14 rfl (Nat.zero_le _) (Nat.zero_le _) rfl rfl

set_option maxRecDepth 100000 in
set_option maxHeartbeats 4000000 in
theorem k_puts {E : EE} {D : Nat} {S : St} {Ps : Nat → St} {A K T N I : St} {hh : Int64} {w : Wo} {c k : Nat} (hc : c < 14) (hk : k < 8) (x : Int32) : Cd E mX4_puts (ml E D S Ps A K T N I hh w) [.ref D, .int (nI c), .int (nI k), .int x] (none) (ml E D (upd S (13 + 8 * c + k) x) Ps A K T N I hh w) := by
  refine Cd.of RX4 rfl (by decide) [some (.ref D), some (.int (nI c)), some (.int (nI k)), some (.int x)] (Nat.le_of_ble_eq_true rfl) rfl (fun Γ h f hmn => ?_)
  refine v_aload_n (i := 0) h 0 1 dX4_puts_0 rfl rfl ld0 ?_
  refine v_get h 1 4 dX4_puts_1 rfl fo_X4_7 ml_ob rfl ?_
  refine v_bipush (v := nI 13) h 4 6 dX4_puts_4 rfl (by decide) ?_
  refine v_bipush (v := nI 8) h 6 8 dX4_puts_6 rfl (by decide) ?_
  refine v_iload_n (i := 1) h 8 9 dX4_puts_8 rfl rfl ld1 ?_
  refine v_imul h 9 10 dX4_puts_9 rfl ?_
  refine v_iadd h 10 11 dX4_puts_10 rfl ?_
  refine v_iload_n (i := 2) h 11 12 dX4_puts_11 rfl rfl ld2 ?_
  refine v_iadd h 12 13 dX4_puts_12 rfl ?_
  rw [pk_mul, nI_add, nI_add]
  refine v_iload_n (i := 3) h 13 14 dX4_puts_13 rfl rfl ld3 ?_
  refine v_istSm h 14 15 _ dX4_puts_14 rfl (by omega) ?_
  exact v_ret h 15 f dX4_puts_15 rfl (Nat.zero_le _) (Nat.zero_le _) rfl rfl

set_option maxRecDepth 100000 in
set_option maxHeartbeats 4000000 in
theorem k_putsTeam {E : EE} {D : Nat} {S : St} {Ps : Nat → St} {A K T N I : St} {hh : Int64} {w : Wo} {c k : Nat} (hc : c < 4) (hk : k < 8) (x : Int32) : Cd E mX4_putsTeam (ml E D S Ps A K T N I hh w) [.ref D, .int (nI c), .int (nI k), .int x] (none) (ml E D (upd S (125 + 8 * c + k) x) Ps A K T N I hh w) := by
  refine Cd.of RX4 rfl (by decide) [some (.ref D), some (.int (nI c)), some (.int (nI k)), some (.int x)] (Nat.le_of_ble_eq_true rfl) rfl (fun Γ h f hmn => ?_)
  refine v_aload_n (i := 0) h 0 1 dX4_putsTeam_0 rfl rfl ld0 ?_
  refine v_get h 1 4 dX4_putsTeam_1 rfl fo_X4_7 ml_ob rfl ?_
  refine v_bipush (v := nI 125) h 4 6 dX4_putsTeam_4 rfl (by decide) ?_
  refine v_bipush (v := nI 8) h 6 8 dX4_putsTeam_6 rfl (by decide) ?_
  refine v_iload_n (i := 1) h 8 9 dX4_putsTeam_8 rfl rfl ld1 ?_
  refine v_imul h 9 10 dX4_putsTeam_9 rfl ?_
  refine v_iadd h 10 11 dX4_putsTeam_10 rfl ?_
  refine v_iload_n (i := 2) h 11 12 dX4_putsTeam_11 rfl rfl ld2 ?_
  refine v_iadd h 12 13 dX4_putsTeam_12 rfl ?_
  rw [pk_mul, nI_add, nI_add]
  refine v_iload_n (i := 3) h 13 14 dX4_putsTeam_13 rfl rfl ld3 ?_
  refine v_istSm h 14 15 _ dX4_putsTeam_14 rfl (by omega) ?_
  exact v_ret h 15 f dX4_putsTeam_15 rfl (Nat.zero_le _) (Nat.zero_le _) rfl rfl

def cpA (f g : St) (n : Nat) : St := fun k => if k < n then g k else f k
theorem cpA_s {f g : St} {j : Nat} : upd (cpA f g j) j (g j) = cpA f g (j + 1) := by
  funext k
  show (if k = j then g j else if k < j then g k else f k) = if k < j + 1 then g k else f k
  by_cases e : k = j
  · rw [if_pos e, if_pos (by omega), e]
  · rw [if_neg e]
    by_cases e2 : k < j
    · rw [if_pos e2, if_pos (by omega)]
    · rw [if_neg e2, if_neg (by omega)]
theorem wup_up {w : Wo} {a : Nat} {e e' : va_E} : wup (wup w a e) a e' = wup w a e' := by
  refine Prod.ext rfl (funext fun q => ?_)
  show (if q = a then some e' else if q = a then some e else w.2 q) = if q = a then some e' else w.2 q
  by_cases h : q = a
  · rw [if_pos h, if_pos h]
  · rw [if_neg h, if_neg h, if_neg h]
theorem wup_same {w : Wo} {a : Nat} {e : va_E} (h : w.2 a = some e) : wup w a e = w := by
  refine Prod.ext rfl (funext fun q => ?_)
  show (if q = a then some e else w.2 q) = w.2 q
  by_cases hq : q = a
  · rw [if_pos hq, hq, h]
  · rw [if_neg hq]
set_option maxRecDepth 100000 in
set_option maxHeartbeats 4000000 in
theorem k_copies {E : EE} {w : Wo} {a b : Nat} {fa ga : St} (ha : w.2 a = some (.inl (gI E, 171, .inl fa))) (hb : w.2 b = some (.inl (gI E, 171, .inl ga))) (hab : b ≠ a) : Cd E mX4_copies (w) [.ref a, .ref b] (none) (wup w a (.inl (gI E, 171, .inl (cpA fa ga 171)))) := by
  refine Cd.of RX4 rfl (by decide) [some (.ref a), some (.ref b), none] (Nat.le_of_ble_eq_true rfl) rfl (fun Γ h f hmn => ?_)
  have hA : ∀ F : St, (wup w a (.inl (gI E, 171, .inl F))).2 a = some (.inl (gI E, 171, .inl F)) := fun F => if_pos rfl
  have hB : ∀ F : St, (wup w a (.inl (gI E, 171, .inl F))).2 b = some (.inl (gI E, 171, .inl ga)) := fun F => (if_neg hab).trans hb
  refine v_iconst (v := 0) h 0 1 dX4_copies_0 rfl (by decide) ?_
  refine v_istore_n (i := 2) h 1 2 dX4_copies_1 rfl rfl (by decide) (so2 rfl) ?_
  have loop2 : ∀ d j, j + d = 171 → V E Γ 0 0 2 [some (.ref a), some (.ref b), some (.int (nI j))] [] (wup w a (.inl (gI E, 171, .inl (cpA fa ga j)))) := by
    intro d
    induction d with
    | zero =>
      intro j hj
      obtain rfl : j = 171 := by omega
      refine v_iload_n (i := 2) h 2 3 dX4_copies_2 rfl rfl ld2 ?_
      refine v_sipush (v := 171) h 3 6 dX4_copies_3 rfl (by decide) ?_
      refine v_icmp_ge h 6 9 21 dX4_copies_6 rfl (by decide) (fun h6 => ?_) (fun h6 => absurd (nI_le (Nat.le_refl _) (by decide)) h6)
      exact v_ret h 21 f dX4_copies_21 rfl (Nat.zero_le _) (Nat.zero_le _) rfl rfl
    | succ d ih =>
      intro j hj
      refine v_iload_n (i := 2) h 2 3 dX4_copies_2 rfl rfl ld2 ?_
      refine v_sipush (v := 171) h 3 6 dX4_copies_3 rfl (by decide) ?_
      refine v_icmp_ge h 6 9 21 dX4_copies_6 rfl (by decide) (fun h6 => absurd h6 (nI_ge (a := j) (b := 171) (by omega) (by decide))) (fun h6 => ?_)
      refine v_aload_n (i := 0) h 9 10 dX4_copies_9 rfl rfl ld0 ?_
      refine v_iload_n (i := 2) h 10 11 dX4_copies_10 rfl rfl ld2 ?_
      refine v_aload_n (i := 1) h 11 12 dX4_copies_11 rfl rfl ld1 ?_
      refine v_iload_n (i := 2) h 12 13 dX4_copies_12 rfl rfl ld2 ?_
      refine v_iald h 13 14 dX4_copies_13 rfl (hB _) (vp_in_nI (n := j) (by omega) (by decide)) ?_
      rw [nI_clamp (by omega)]
      refine v_iast h 14 15 dX4_copies_14 rfl (hA _) (vp_in_nI (n := j) (by omega) (by decide)) ?_
      rw [nI_clamp (by omega)]
      refine v_iinc (i := 2) h 15 18 dX4_copies_15 rfl ld2 (by first | exact iinc1 _ | rfl) (by decide) (so2 rfl) ?_
      refine v_goto h 18 2 dX4_copies_18 (by decide) ?_
      refine V.world (w' := wup w a (.inl (gI E, 171, .inl (cpA fa ga (j + 1))))) (by rw [wup_up, cpA_s]) (V.weakT (ih (j + 1) (by omega)) (And.intro rfl (And.intro rfl (And.intro rfl trivial))))
  refine V.world (w' := wup w a (.inl (gI E, 171, .inl (cpA fa ga 0)))) (wup_same ha).symm (V.weakT (loop2 171 0 (by omega)) (And.intro rfl (And.intro rfl (And.intro rfl trivial))))

theorem cpA_gd {f g : St} : cpA (gd 171 f) (gd 171 g) 171 = gd 171 g := by
  funext k
  show (if k < 171 then (if k < 171 then g k else 0) else if k < 171 then f k else 0) = if k < 171 then g k else 0
  by_cases e : k < 171
  · rw [if_pos e]
  · rw [if_neg e, if_neg e, if_neg e]
theorem k_cAS {E : EE} {D : Nat} {S : St} {Ps : Nat → St} {A K T N I : St} {hh : Int64} {w : Wo} : Cd E mX4_copies (ml E D S Ps A K T N I hh w) [.ref (D + 3), .ref (D + 1)] none (ml E D S Ps S K T N I hh w) := by
  have h := k_copies (E := E) (w := ml E D S Ps A K T N I hh w) ml_a ml_s (by omega)
  rw [cpA_gd, ml_wa] at h
  exact h
theorem k_cKS {E : EE} {D : Nat} {S : St} {Ps : Nat → St} {A K T N I : St} {hh : Int64} {w : Wo} : Cd E mX4_copies (ml E D S Ps A K T N I hh w) [.ref (D + 4), .ref (D + 1)] none (ml E D S Ps A S T N I hh w) := by
  have h := k_copies (E := E) (w := ml E D S Ps A K T N I hh w) ml_k ml_s (by omega)
  rw [cpA_gd, ml_wk] at h
  exact h
theorem k_cSA {E : EE} {D : Nat} {S : St} {Ps : Nat → St} {A K T N I : St} {hh : Int64} {w : Wo} : Cd E mX4_copies (ml E D S Ps A K T N I hh w) [.ref (D + 1), .ref (D + 3)] none (ml E D A Ps A K T N I hh w) := by
  have h := k_copies (E := E) (w := ml E D S Ps A K T N I hh w) ml_s ml_a (by omega)
  rw [cpA_gd, ml_ws] at h
  exact h
theorem k_cSK {E : EE} {D : Nat} {S : St} {Ps : Nat → St} {A K T N I : St} {hh : Int64} {w : Wo} : Cd E mX4_copies (ml E D S Ps A K T N I hh w) [.ref (D + 1), .ref (D + 4)] none (ml E D K Ps A K T N I hh w) := by
  have h := k_copies (E := E) (w := ml E D S Ps A K T N I hh w) ml_s ml_k (by omega)
  rw [cpA_gd, ml_ws] at h
  exact h
set_option maxRecDepth 100000 in
set_option maxHeartbeats 4000000 in
theorem k_hold {E : EE} {D : Nat} {S : St} {Ps : Nat → St} {A K T N I : St} {hh : Int64} {w : Wo} : Cd E mX4_hold (ml E D S Ps A K T N I hh w) [.ref D] (none) (ml E D S Ps S K T N I hh w) := by
  refine Cd.of RX4 rfl (by decide) [some (.ref D)] (Nat.le_of_ble_eq_true rfl) rfl (fun Γ h f hmn => ?_)
  refine v_aload_n (i := 0) h 0 1 dX4_hold_0 rfl rfl ld0 ?_
  refine v_get h 1 4 dX4_hold_1 rfl fo_X4_16 ml_ob rfl ?_
  refine v_aload_n (i := 0) h 4 5 dX4_hold_4 rfl rfl ld0 ?_
  refine v_get h 5 8 dX4_hold_5 rfl fo_X4_7 ml_ob rfl ?_
  refine v_callS0 h 8 11 dX4_hold_8 rfl cb_X4_copies cs_X4_copies lk_X4_32 (rok (by decide) (by decide)) ⟨rfl, rfl⟩ ⟨Nat.zero_le _, Nat.zero_le _⟩ k_cAS rfl rfl (Nat.le_of_ble_eq_true rfl) ?_
  exact v_ret h 11 f dX4_hold_11 rfl (Nat.zero_le _) (Nat.zero_le _) rfl rfl

set_option maxRecDepth 100000 in
set_option maxHeartbeats 4000000 in
theorem k_wayOf {E : EE} {D : Nat} {S : St} {Ps : Nat → St} {A K T N I : St} {hh : Int64} {w : Wo} {x y : Int32} (hx : InS x) (hy : InS y) : Cd E mX4_wayOf (ml E D S Ps A K T N I hh w) [.ref D, .int x, .int y] (some (.int (wayV S x y))) (ml E D S Ps A K T N I hh w) := by
  refine Cd.of RX4 rfl (by decide) [some (.ref D), some (.int x), some (.int y), none, none, none] (Nat.le_of_ble_eq_true rfl) rfl (fun Γ h f hmn => ?_)
  obtain ⟨a, ha, rfl⟩ := hx
  obtain ⟨b, hb, rfl⟩ := hy
  obtain ⟨lo, hlo⟩ : ∃ lo, lo = min a b := ⟨_, rfl⟩
  obtain ⟨n, hn⟩ : ∃ n, n = max a b - min a b := ⟨_, rfl⟩
  have hmx : max a b = lo + n := by omega
  have hln : lo + n ≤ 6 := by omega
  unfold wayV at f
  rw [nI_clamp (by omega), nI_clamp (by omega), ← hn, ← hlo] at f
  have k26 : V E Γ 0 0 26 [some (.ref D), some (.int (nI a)), some (.int (nI b)), some (.int 0), some (.int (nI (lo + n))), some (.int (nI lo))] [] (ml E D S Ps A K T N I hh w) := by
    have loop26 : ∀ d j, j + d = n → V E Γ 0 0 26 [some (.ref D), some (.int (nI a)), some (.int (nI b)), some (.int (waySum S lo j)), some (.int (nI (lo + n))), some (.int (nI (lo + j)))] [] (ml E D S Ps A K T N I hh w) := by
      intro d
      induction d with
      | zero =>
        intro j hj
        obtain rfl : n = j := by omega
        refine v_iload (i := 5) h 26 28 dX4_wayOf_26 rfl ld5 ?_
        refine v_iload (i := 4) h 28 30 dX4_wayOf_28 rfl ld4 ?_
        refine v_icmp_ge h 30 33 51 dX4_wayOf_30 rfl (by decide) (fun h30 => ?_) (fun h30 => absurd (nI_le (by omega) (by omega)) h30)
        refine v_iload_n (i := 3) h 51 52 dX4_wayOf_51 rfl rfl ld3 ?_
        exact v_iret h 52 f dX4_wayOf_52 rfl (Nat.zero_le _) (Nat.zero_le _) rfl rfl
      | succ d ih =>
        intro j hj
        refine v_iload (i := 5) h 26 28 dX4_wayOf_26 rfl ld5 ?_
        refine v_iload (i := 4) h 28 30 dX4_wayOf_28 rfl ld4 ?_
        refine v_icmp_ge h 30 33 51 dX4_wayOf_30 rfl (by decide) (fun h30 => absurd h30 (nI_ge (by omega) (by omega))) (fun h30 => ?_)
        refine v_iload_n (i := 3) h 33 34 dX4_wayOf_33 rfl rfl ld3 ?_
        refine v_aload_n (i := 0) h 34 35 dX4_wayOf_34 rfl rfl ld0 ?_
        refine v_get h 35 38 dX4_wayOf_35 rfl fo_X4_7 ml_ob rfl ?_
        refine v_iconst (v := nI 1) h 38 39 dX4_wayOf_38 rfl (by decide) ?_
        refine v_iload (i := 5) h 39 41 dX4_wayOf_39 rfl ld5 ?_
        refine v_iadd h 41 42 dX4_wayOf_41 rfl ?_
        rw [nI_add]
        refine v_ildSm h 42 43 _ dX4_wayOf_42 rfl (by omega) ?_
        refine v_iadd h 43 44 dX4_wayOf_43 rfl ?_
        refine v_istore_n (i := 3) h 44 45 dX4_wayOf_44 rfl rfl (by decide) (so3 rfl) ?_
        refine v_iinc (i := 5) h 45 48 dX4_wayOf_45 rfl ld5 (by first | exact iinc1 _ | rfl) (by decide) (so5 rfl) ?_
        refine v_goto h 48 26 dX4_wayOf_48 (by decide) ?_
        exact V.weakT (ih (j + 1) (by omega)) (And.intro rfl (And.intro rfl (And.intro rfl (And.intro rfl (And.intro rfl (And.intro rfl trivial))))))
    exact V.weakT (loop26 n 0 (by omega)) (And.intro rfl (And.intro rfl (And.intro rfl (And.intro rfl (And.intro rfl (And.intro rfl trivial))))))
  refine v_iconst (v := 0) h 0 1 dX4_wayOf_0 rfl (by decide) ?_
  refine v_istore_n (i := 3) h 1 2 dX4_wayOf_1 rfl rfl (by decide) (so3 rfl) ?_
  refine v_iload_n (i := 1) h 2 3 dX4_wayOf_2 rfl rfl ld1 ?_
  refine v_iload_n (i := 2) h 3 4 dX4_wayOf_3 rfl rfl ld2 ?_
  refine v_icmp_le h 4 7 11 dX4_wayOf_4 rfl (by decide) (fun h4 => ?_) (fun h4 => ?_)
  · refine v_iload_n (i := 2) h 11 12 dX4_wayOf_11 rfl rfl ld2 ?_
    refine v_istore (i := 4) h 12 14 dX4_wayOf_12 rfl (by decide) (so4 rfl) ?_
    refine v_iload_n (i := 1) h 14 15 dX4_wayOf_14 rfl rfl ld1 ?_
    refine v_iload_n (i := 2) h 15 16 dX4_wayOf_15 rfl rfl ld2 ?_
    refine v_icmp_ge h 16 19 23 dX4_wayOf_16 rfl (by decide) (fun h16 => ?_) (fun h16 => ?_)
    · refine v_iload_n (i := 2) h 23 24 dX4_wayOf_23 rfl rfl ld2 ?_
      refine v_istore (i := 5) h 24 26 dX4_wayOf_24 rfl (by decide) (so5 rfl) ?_
      have e4 := (nI_leI (by omega) (by omega)).mp h4
      have e16 := (nI_leI (by omega) (by omega)).mp h16
      have q1 : lo + n = b := by omega
      have q2 : lo = b := by omega
      rw [q1, q2] at k26
      exact k26
    · refine v_iload_n (i := 1) h 19 20 dX4_wayOf_19 rfl rfl ld1 ?_
      refine v_goto h 20 24 dX4_wayOf_20 (by decide) ?_
      refine v_istore (i := 5) h 24 26 dX4_wayOf_24 rfl (by decide) (so5 rfl) ?_
      have e4 := (nI_leI (by omega) (by omega)).mp h4
      have e16 := Nat.not_le.mp (fun q => h16 (nI_le q (by omega)))
      have q1 : lo + n = b := by omega
      have q2 : lo = a := by omega
      rw [q1, q2] at k26
      exact k26
  · refine v_iload_n (i := 1) h 7 8 dX4_wayOf_7 rfl rfl ld1 ?_
    refine v_goto h 8 12 dX4_wayOf_8 (by decide) ?_
    refine v_istore (i := 4) h 12 14 dX4_wayOf_12 rfl (by decide) (so4 rfl) ?_
    refine v_iload_n (i := 1) h 14 15 dX4_wayOf_14 rfl rfl ld1 ?_
    refine v_iload_n (i := 2) h 15 16 dX4_wayOf_15 rfl rfl ld2 ?_
    refine v_icmp_ge h 16 19 23 dX4_wayOf_16 rfl (by decide) (fun h16 => ?_) (fun h16 => ?_)
    · refine v_iload_n (i := 2) h 23 24 dX4_wayOf_23 rfl rfl ld2 ?_
      refine v_istore (i := 5) h 24 26 dX4_wayOf_24 rfl (by decide) (so5 rfl) ?_
      have e4 := Nat.not_le.mp (fun q => h4 (nI_le q (by omega)))
      have e16 := (nI_leI (by omega) (by omega)).mp h16
      have q1 : lo + n = a := by omega
      have q2 : lo = b := by omega
      rw [q1, q2] at k26
      exact k26
    · refine v_iload_n (i := 1) h 19 20 dX4_wayOf_19 rfl rfl ld1 ?_
      refine v_goto h 20 24 dX4_wayOf_20 (by decide) ?_
      refine v_istore (i := 5) h 24 26 dX4_wayOf_24 rfl (by decide) (so5 rfl) ?_
      have e4 := Nat.not_le.mp (fun q => h4 (nI_le q (by omega)))
      have e16 := Nat.not_le.mp (fun q => h16 (nI_le q (by omega)))
      have q1 : lo + n = a := by omega
      have q2 : lo = a := by omega
      rw [q1, q2] at k26
      exact k26

theorem rk3 {S : St} {c : Nat} (h : S (13 + 8 * c + 3) = 0 ∨ S (13 + 8 * c + 3) = 1) : S (13 + 8 * c + 2) + 3 * S (13 + 8 * c + 3) = rkS S c := by
  unfold rkS
  rcases h with h | h
  · rw [h, if_pos rfl, Int32.mul_zero, Int32.add_zero]
  · rw [h, if_neg (by decide), Int32.mul_one]
set_option maxRecDepth 100000 in
set_option maxHeartbeats 4000000 in
theorem k_rankOf {E : EE} {D : Nat} {S : St} {Ps : Nat → St} {A K T N I : St} {hh : Int64} {w : Wo} {c : Nat} (hc : c < 14) (hz : S (13 + 8 * c + 3) = 0 ∨ S (13 + 8 * c + 3) = 1) : Cd E mX4_rankOf (ml E D S Ps A K T N I hh w) [.ref D, .int (nI c)] (some (.int (rkS S c))) (ml E D S Ps A K T N I hh w) := by
  refine Cd.of RX4 rfl (by decide) [some (.ref D), some (.int (nI c))] (Nat.le_of_ble_eq_true rfl) rfl (fun Γ h f hmn => ?_)
  refine v_aload_n (i := 0) h 0 1 dX4_rankOf_0 rfl rfl ld0 ?_
  refine v_iload_n (i := 1) h 1 2 dX4_rankOf_1 rfl rfl ld1 ?_
  refine v_iconst (v := 2) h 2 3 dX4_rankOf_2 rfl (by decide) ?_
  refine v_callV1 h 3 6 dX4_rankOf_3 rfl cb_X4_of cv_X4_of ml_ob lk_X4_43 (rok (by decide) (by decide)) ⟨rfl, rfl⟩ ⟨Nat.zero_le _, Nat.zero_le _⟩ (k_of (c := c) (k := 2) (by omega) (by decide)) rfl rfl (Nat.le_of_ble_eq_true rfl) ?_
  refine v_iconst (v := 3) h 6 7 dX4_rankOf_6 rfl (by decide) ?_
  refine v_aload_n (i := 0) h 7 8 dX4_rankOf_7 rfl rfl ld0 ?_
  refine v_iload_n (i := 1) h 8 9 dX4_rankOf_8 rfl rfl ld1 ?_
  refine v_iconst (v := 3) h 9 10 dX4_rankOf_9 rfl (by decide) ?_
  refine v_callV1 h 10 13 dX4_rankOf_10 rfl cb_X4_of cv_X4_of ml_ob lk_X4_43 (rok (by decide) (by decide)) ⟨rfl, rfl⟩ ⟨Nat.zero_le _, Nat.zero_le _⟩ (k_of (c := c) (k := 3) (by omega) (by decide)) rfl rfl (Nat.le_of_ble_eq_true rfl) ?_
  refine v_imul h 13 14 dX4_rankOf_13 rfl ?_
  refine v_iadd h 14 15 dX4_rankOf_14 rfl ?_
  refine v_iret h 15 f dX4_rankOf_15 rfl (Nat.zero_le _) (Nat.zero_le _) ?_ ?_
  · rw [rk3 hz]
  · rfl

