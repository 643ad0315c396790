/-! THE REFERENCE READS A TEXT -/
def atI (T : St) (n i : Nat) (a b : Int32) : Int32 := if n ≤ i then 0 else if T i < a then 0 else if b < T i then 0 else 1
theorem atI_lt {T : St} {n i : Nat} {a b : Int32} (h : ¬ atI T n i a b = 0) : i < n ∧ ¬ T i < a ∧ ¬ b < T i := by
  unfold atI at h
  by_cases h1 : n ≤ i
  · rw [if_pos h1] at h; exact absurd rfl h
  · rw [if_neg h1] at h
    by_cases h2 : T i < a
    · rw [if_pos h2] at h; exact absurd rfl h
    · rw [if_neg h2] at h
      by_cases h3 : b < T i
      · rw [if_pos h3] at h; exact absurd rfl h
      · exact ⟨by omega, h2, h3⟩
def hgS (S : St) (sp ri co ch : Int32) : St := hangS (upd S 7 (nI (cnt (S 7) + 1))) (cnt (S 7)) sp ri co ch
def rc2 (T : St) (n i k : Nat) (S : St) (r ch : Int32) : Int32 × Nat × St := if atI T n i 43 43 = 0 then (1, i, hgS S (nI k) r 0 ch) else if atI T n (i + 1) 48 57 = 0 then (0, i + 1, S) else (1, i + 2, hgS S (nI k) r (T (i + 1) - 48) ch)
def rc (T : St) (n i k : Nat) (S : St) : Int32 × Nat × St := if S 7 = 14 then (0, i, S) else if atI T n (i + 1) 99 99 = 0 then rc2 T n (i + 1) k S (T i - 48) 0 else rc2 T n (i + 2) k S (T i - 48) 1
def rl (T : St) (n : Nat) : Nat → Nat → Nat → St → Int32 × Nat × St
  | 0, i, _, S => (0, i, S)
  | f + 1, i, k, S => if n ≤ i then (if k = 0 then 0 else 1, i, upd S 0 (nI (k + 1))) else if atI T n i 49 52 = 0 then (if atI T n i 124 124 = 0 then (0, i, S) else if 6 ≤ k then (0, i, S) else rl T n f (i + 1) (k + 1) S) else if (rc T n i k S).1 = 0 then (0, (rc T n i k S).2.1, (rc T n i k S).2.2) else rl T n f (rc T n i k S).2.1 k (rc T n i k S).2.2
theorem rl_s (T : St) (n f i k : Nat) (S : St) : rl T n (f + 1) i k S = if n ≤ i then (if k = 0 then 0 else 1, i, upd S 0 (nI (k + 1))) else if atI T n i 49 52 = 0 then (if atI T n i 124 124 = 0 then (0, i, S) else if 6 ≤ k then (0, i, S) else rl T n f (i + 1) (k + 1) S) else if (rc T n i k S).1 = 0 then (0, (rc T n i k S).2.1, (rc T n i k S).2.2) else rl T n f (rc T n i k S).2.1 k (rc T n i k S).2.2 := rfl
theorem hg_cn {S : St} {sp ri co ch : Int32} (h : Cn S) (h2 : ¬ S 7 = 14) : Cn (hgS S sp ri co ch) := by
  obtain ⟨nc, hm, e⟩ := h
  have : nc < 14 := by
    rcases Nat.lt_or_ge nc 14 with q | q
    · exact q
    · exact absurd (by rw [e, show nc = 14 by omega]; rfl) h2
  unfold hgS
  rw [e, cnt, nI_clamp (by omega)]
  exact ⟨nc + 1, by omega, (hangS_ne (by omega)).trans (upd_self _ _ _)⟩
theorem rc2_in {T S : St} {n i k : Nat} {r ch : Int32} (hi : i ≤ n) (h : Cn S) (h2 : ¬ S 7 = 14) : i ≤ (rc2 T n i k S r ch).2.1 ∧ (rc2 T n i k S r ch).2.1 ≤ n ∧ Cn (rc2 T n i k S r ch).2.2 := by
  unfold rc2
  by_cases q : atI T n i 43 43 = 0
  · rw [if_pos q]; exact ⟨Nat.le_refl _, hi, hg_cn h h2⟩
  · rw [if_neg q]
    have q1 := (atI_lt q).1
    by_cases q2 : atI T n (i + 1) 48 57 = 0
    · rw [if_pos q2]; exact ⟨show i ≤ i + 1 by omega, show i + 1 ≤ n by omega, h⟩
    · rw [if_neg q2]
      have q3 := (atI_lt q2).1
      exact ⟨show i ≤ i + 2 by omega, show i + 2 ≤ n by omega, hg_cn h h2⟩
theorem rc_in {T S : St} {n i k : Nat} (hi : i < n) (h : Cn S) : (rc T n i k S).2.1 ≤ n ∧ Cn (rc T n i k S).2.2 ∧ (¬ (rc T n i k S).1 = 0 → i < (rc T n i k S).2.1) := by
  unfold rc
  by_cases h2 : S 7 = 14
  · rw [if_pos h2]; exact ⟨show i ≤ n by omega, h, fun q => absurd rfl q⟩
  · rw [if_neg h2]
    by_cases q : atI T n (i + 1) 99 99 = 0
    · rw [if_pos q]
      obtain ⟨a, b, c⟩ := rc2_in (T := T) (k := k) (r := T i - 48) (ch := 0) (show i + 1 ≤ n by omega) h h2
      exact ⟨b, c, fun _ => by omega⟩
    · rw [if_neg q]
      have q1 := (atI_lt q).1
      obtain ⟨a, b, c⟩ := rc2_in (T := T) (k := k) (r := T i - 48) (ch := 1) (show i + 2 ≤ n by omega) h h2
      exact ⟨b, c, fun _ => by omega⟩
theorem k_addsH {E : EE} {D : Nat} {S : St} {Ps : Nat → St} {A K T N I : St} {hh : Int64} {w : Wo} (h : Cn S) (h2 : ¬ S 7 = 14) (sp ri co ch : Int32) : Cd E mX4_addsChair (ml E D S Ps A K T N I hh w) [.ref D, .int sp, .int ri, .int co, .int ch] none (ml E D (hgS S sp ri co ch) Ps A K T N I hh w) := by
  obtain ⟨nc, hm, e⟩ := h
  have : nc < 14 := by
    rcases Nat.lt_or_ge nc 14 with q | q
    · exact q
    · exact absurd (by rw [e, show nc = 14 by omega]; rfl) h2
  have q := k_addsChair (E := E) (D := D) (S := S) (Ps := Ps) (A := A) (K := K) (T := T) (N := N) (I := I) (hh := hh) (w := w) e this sp ri co ch
  unfold hgS
  rw [e, cnt, nI_clamp (by omega)]
  exact q
set_option maxRecDepth 100000 in
set_option maxHeartbeats 4000000 in
theorem k_isAt {E : EE} {D : Nat} {S : St} {Ps : Nat → St} {A K T N I : St} {hh : Int64} {w : Wo} {i : Nat} {n : Nat} (e1 : I 1 = nI n) (hn : n ≤ 100) (hi : i ≤ n) (a b : Int32) : Cd E mX4_isAt (ml E D S Ps A K T N (upd I 4 (nI i)) hh w) [.ref D, .int a, .int b] (some (.int (atI T n i a b))) (ml E D S Ps A K T N (upd I 4 (nI i)) hh w) := by
  refine Cd.of RX4 rfl (by decide) [some (.ref D), some (.int a), some (.int b)] (Nat.le_of_ble_eq_true rfl) rfl (fun Γ h f hmn => ?_)
  have e1 : upd I 4 (nI i) 1 = nI n := (upd_ne _ _ (by omega)).trans e1
  have e4 : upd I 4 (nI i) 4 = nI i := upd_self _ _ _
  refine v_aload_n (i := 0) h 0 1 dX4_isAt_0 rfl rfl ld0 ?_
  refine v_get h 1 4 dX4_isAt_1 rfl fo_X4_139 ml_ob rfl ?_
  rw [e4]
  refine v_aload_n (i := 0) h 4 5 dX4_isAt_4 rfl rfl ld0 ?_
  refine v_get h 5 8 dX4_isAt_5 rfl fo_X4_136 ml_ob rfl ?_
  rw [e1]
  refine v_icmp_ge h 8 11 32 dX4_isAt_8 rfl (by decide) (fun h8 => ?_) (fun h8 => ?_)
  · refine v_iconst (v := 0) h 32 33 dX4_isAt_32 rfl (by decide) ?_
    refine v_zret h 33 f dX4_isAt_33 rfl rfl (Nat.zero_le _) (Nat.zero_le _) ?_ ?_
    · rw [atI, if_pos ((nI_leI (by omega) (by omega)).mp h8)]
    · rfl
  · have q8 : i < n := Nat.not_le.mp (fun q => h8 (nI_le q (by omega)))
    refine v_aload_n (i := 0) h 11 12 dX4_isAt_11 rfl rfl ld0 ?_
    refine v_get h 12 15 dX4_isAt_12 rfl fo_X4_22 ml_ob rfl ?_
    refine v_aload_n (i := 0) h 15 16 dX4_isAt_15 rfl rfl ld0 ?_
    refine v_get h 16 19 dX4_isAt_16 rfl fo_X4_139 ml_ob rfl ?_
    rw [e4]
    refine v_ildXm h 19 20 _ dX4_isAt_19 rfl (by omega) ?_
    refine v_iload_n (i := 1) h 20 21 dX4_isAt_20 rfl rfl ld1 ?_
    refine v_iload_n (i := 2) h 21 22 dX4_isAt_21 rfl rfl ld2 ?_
    refine v_callS1 h 22 25 dX4_isAt_22 rfl cb_X4_in cs_X4_in lk_X4_95 (rok (by decide) (by decide)) ⟨rfl, rfl⟩ ⟨Nat.zero_le _, Nat.zero_le _⟩ (k_in _ _ _) rfl rfl (Nat.le_of_ble_eq_true rfl) ?_
    refine v_if_eq h 25 28 32 dX4_isAt_25 rfl (by decide) (fun h25 => ?_) (fun h25 => ?_)
    · refine v_iconst (v := 0) h 32 33 dX4_isAt_32 rfl (by decide) ?_
      refine v_zret h 33 f dX4_isAt_33 rfl rfl (Nat.zero_le _) (Nat.zero_le _) ?_ ?_
      · rw [atI, if_neg (by omega), h25]
      · rfl
    · refine v_iconst (v := 1) h 28 29 dX4_isAt_28 rfl (by decide) ?_
      refine v_goto h 29 33 dX4_isAt_29 (by decide) ?_
      refine v_zret h 33 f dX4_isAt_33 rfl rfl (Nat.zero_le _) (Nat.zero_le _) ?_ ?_
      · rw [atI, if_neg (by omega)]
        by_cases z1 : T i < a
        · rw [if_pos z1] at h25; exact absurd rfl h25
        · rw [if_neg z1] at h25 ⊢
          by_cases z2 : b < T i
          · rw [if_pos z2] at h25; exact absurd rfl h25
          · rw [if_neg z2]
      · rfl

set_option maxRecDepth 100000 in
set_option maxHeartbeats 4000000 in
theorem k_readsChair {E : EE} {D : Nat} {S : St} {Ps : Nat → St} {A K T N I : St} {hh : Int64} {w : Wo} {i n k : Nat} (e1 : I 1 = nI n) (hn : n ≤ 100) (hi : i < n) (hC : Cn S) : Cd E mX4_readsChair (ml E D S Ps A K T N (upd I 4 (nI i)) hh w) [.ref D, .int (nI k)] (some (.int (rc T n i k S).1)) (ml E D ((rc T n i k S).2.2) Ps A K T N (upd I 4 (nI (rc T n i k S).2.1)) hh w) := by
  refine Cd.of RX4 rfl (by decide) [some (.ref D), some (.int (nI k)), none, none, none] (Nat.le_of_ble_eq_true rfl) rfl (fun Γ h f hmn => ?_)
  have k65 : ∀ (i : Nat) (r ch : Int32), i ≤ n → ¬ S 7 = 14 → Fn E Γ mX4_readsChair (some (.int (rc2 T n i k S r ch).1)) (ml E D ((rc2 T n i k S r ch).2.2) Ps A K T N (upd I 4 (nI (rc2 T n i k S r ch).2.1)) hh w) → V E Γ 0 0 65 [some (.ref D), some (.int (nI k)), some (.int r), some (.int ch), some (.int 0)] [] (ml E D S Ps A K T N (upd I 4 (nI i)) hh w) := by
    intro i r ch hi h9 f
    refine v_aload_n (i := 0) h 65 66 dX4_readsChair_65 rfl rfl ld0 ?_
    refine v_bipush (v := 43) h 66 68 dX4_readsChair_66 rfl (by decide) ?_
    refine v_bipush (v := 43) h 68 70 dX4_readsChair_68 rfl (by decide) ?_
    refine v_callV1 h 70 73 dX4_readsChair_70 rfl cb_X4_isAt cv_X4_isAt ml_ob lk_X4_142 (rok (by decide) (by decide)) ⟨rfl, rfl⟩ ⟨Nat.zero_le _, Nat.zero_le _⟩ (k_isAt e1 hn (i := i) hi _ _) rfl rfl (Nat.le_of_ble_eq_true rfl) ?_
    refine v_if_eq h 73 76 123 dX4_readsChair_73 rfl (by decide) (fun h73 => ?_) (fun h73 => ?_)
    · skip
      refine v_aload_n (i := 0) h 123 124 dX4_readsChair_123 rfl rfl ld0 ?_
      refine v_iload_n (i := 1) h 124 125 dX4_readsChair_124 rfl rfl ld1 ?_
      refine v_iload_n (i := 2) h 125 126 dX4_readsChair_125 rfl rfl ld2 ?_
      refine v_iload (i := 4) h 126 128 dX4_readsChair_126 rfl ld4 ?_
      refine v_iload_n (i := 3) h 128 129 dX4_readsChair_128 rfl rfl ld3 ?_
      refine v_callV0 h 129 132 dX4_readsChair_129 rfl cb_X4_addsChair cv_X4_addsChair ml_ob lk_X4_102 (rok (by decide) (by decide)) ⟨rfl, rfl⟩ ⟨Nat.zero_le _, Nat.zero_le _⟩ (k_addsH hC h9 _ _ _ _) rfl rfl (Nat.le_of_ble_eq_true rfl) ?_
      refine v_iconst (v := 1) h 132 133 dX4_readsChair_132 rfl (by decide) ?_
      refine v_zret h 133 f dX4_readsChair_133 rfl rfl (Nat.zero_le _) (Nat.zero_le _) ?_ ?_
      · rw [rc2, if_pos h73]
      · rw [rc2, if_pos h73]
    · have q1 := (atI_lt h73).1
      refine v_aload_n (i := 0) h 76 77 dX4_readsChair_76 rfl rfl ld0 ?_
      refine v_dup h 77 78 dX4_readsChair_77 rfl rfl ?_
      refine v_get h 78 81 dX4_readsChair_78 rfl fo_X4_139 ml_ob rfl ?_
      rw [upd_self]
      refine v_iconst (v := 1) h 81 82 dX4_readsChair_81 rfl (by decide) ?_
      refine v_iadd h 82 83 dX4_readsChair_82 rfl ?_
      rw [nI_1]
      refine v_putM10 h 83 86 dX4_readsChair_83 rfl fw_X4_139 ?_
      rw [upd_upd]
      refine v_aload_n (i := 0) h 86 87 dX4_readsChair_86 rfl rfl ld0 ?_
      refine v_bipush (v := 48) h 87 89 dX4_readsChair_87 rfl (by decide) ?_
      refine v_bipush (v := 57) h 89 91 dX4_readsChair_89 rfl (by decide) ?_
      refine v_callV1 h 91 94 dX4_readsChair_91 rfl cb_X4_isAt cv_X4_isAt ml_ob lk_X4_142 (rok (by decide) (by decide)) ⟨rfl, rfl⟩ ⟨Nat.zero_le _, Nat.zero_le _⟩ (k_isAt e1 hn (i := i + 1) (by omega) _ _) rfl rfl (Nat.le_of_ble_eq_true rfl) ?_
      refine v_if_ne h 94 97 99 dX4_readsChair_94 rfl (by decide) (fun h94 => ?_) (fun h94 => ?_)
      · have q2 := (atI_lt h94).1
        refine v_aload_n (i := 0) h 99 100 dX4_readsChair_99 rfl rfl ld0 ?_
        refine v_get h 100 103 dX4_readsChair_100 rfl fo_X4_22 ml_ob rfl ?_
        refine v_aload_n (i := 0) h 103 104 dX4_readsChair_103 rfl rfl ld0 ?_
        refine v_get h 104 107 dX4_readsChair_104 rfl fo_X4_139 ml_ob rfl ?_
        rw [upd_self]
        refine v_ildXm h 107 108 _ dX4_readsChair_107 rfl (by omega) ?_
        refine v_bipush (v := 48) h 108 110 dX4_readsChair_108 rfl (by decide) ?_
        refine v_isub h 110 111 dX4_readsChair_110 rfl ?_
        refine v_istore (i := 4) h 111 113 dX4_readsChair_111 rfl (by decide) (so4 rfl) ?_
        refine v_aload_n (i := 0) h 113 114 dX4_readsChair_113 rfl rfl ld0 ?_
        refine v_dup h 114 115 dX4_readsChair_114 rfl rfl ?_
        refine v_get h 115 118 dX4_readsChair_115 rfl fo_X4_139 ml_ob rfl ?_
        rw [upd_self]
        refine v_iconst (v := 1) h 118 119 dX4_readsChair_118 rfl (by decide) ?_
        refine v_iadd h 119 120 dX4_readsChair_119 rfl ?_
        rw [nI_1]
        refine v_putM10 h 120 123 dX4_readsChair_120 rfl fw_X4_139 ?_
        rw [upd_upd]
        refine v_aload_n (i := 0) h 123 124 dX4_readsChair_123 rfl rfl ld0 ?_
        refine v_iload_n (i := 1) h 124 125 dX4_readsChair_124 rfl rfl ld1 ?_
        refine v_iload_n (i := 2) h 125 126 dX4_readsChair_125 rfl rfl ld2 ?_
        refine v_iload (i := 4) h 126 128 dX4_readsChair_126 rfl ld4 ?_
        refine v_iload_n (i := 3) h 128 129 dX4_readsChair_128 rfl rfl ld3 ?_
        refine v_callV0 h 129 132 dX4_readsChair_129 rfl cb_X4_addsChair cv_X4_addsChair ml_ob lk_X4_102 (rok (by decide) (by decide)) ⟨rfl, rfl⟩ ⟨Nat.zero_le _, Nat.zero_le _⟩ (k_addsH hC h9 _ _ _ _) rfl rfl (Nat.le_of_ble_eq_true rfl) ?_
        refine v_iconst (v := 1) h 132 133 dX4_readsChair_132 rfl (by decide) ?_
        refine v_zret h 133 f dX4_readsChair_133 rfl rfl (Nat.zero_le _) (Nat.zero_le _) ?_ ?_
        · rw [rc2, if_neg h73, if_neg h94]
        · rw [rc2, if_neg h73, if_neg h94]
      · refine v_iconst (v := 0) h 97 98 dX4_readsChair_97 rfl (by decide) ?_
        refine v_zret h 98 f dX4_readsChair_98 rfl rfl (Nat.zero_le _) (Nat.zero_le _) ?_ ?_
        · rw [rc2, if_neg h73, if_pos h94]
        · rw [rc2, if_neg h73, if_pos h94]
  refine v_aload_n (i := 0) h 0 1 dX4_readsChair_0 rfl rfl ld0 ?_
  refine v_get h 1 4 dX4_readsChair_1 rfl fo_X4_7 ml_ob rfl ?_
  refine v_bipush (v := nI 7) h 4 6 dX4_readsChair_4 rfl (by decide) ?_
  refine v_ildSm h 6 7 _ dX4_readsChair_6 rfl (by omega) ?_
  refine v_bipush (v := 14) h 7 9 dX4_readsChair_7 rfl (by decide) ?_
  refine v_icmp_ne h 9 12 14 dX4_readsChair_9 rfl (by decide) (fun h9 => ?_) (fun h9 => ?_)
  · refine v_aload_n (i := 0) h 14 15 dX4_readsChair_14 rfl rfl ld0 ?_
    refine v_get h 15 18 dX4_readsChair_15 rfl fo_X4_22 ml_ob rfl ?_
    refine v_aload_n (i := 0) h 18 19 dX4_readsChair_18 rfl rfl ld0 ?_
    refine v_get h 19 22 dX4_readsChair_19 rfl fo_X4_139 ml_ob rfl ?_
    rw [upd_self]
    refine v_ildXm h 22 23 _ dX4_readsChair_22 rfl (by omega) ?_
    refine v_bipush (v := 48) h 23 25 dX4_readsChair_23 rfl (by decide) ?_
    refine v_isub h 25 26 dX4_readsChair_25 rfl ?_
    refine v_istore_n (i := 2) h 26 27 dX4_readsChair_26 rfl rfl (by decide) (so2 rfl) ?_
    refine v_iconst (v := 0) h 27 28 dX4_readsChair_27 rfl (by decide) ?_
    refine v_istore_n (i := 3) h 28 29 dX4_readsChair_28 rfl rfl (by decide) (so3 rfl) ?_
    refine v_iconst (v := 0) h 29 30 dX4_readsChair_29 rfl (by decide) ?_
    refine v_istore (i := 4) h 30 32 dX4_readsChair_30 rfl (by decide) (so4 rfl) ?_
    refine v_aload_n (i := 0) h 32 33 dX4_readsChair_32 rfl rfl ld0 ?_
    refine v_dup h 33 34 dX4_readsChair_33 rfl rfl ?_
    refine v_get h 34 37 dX4_readsChair_34 rfl fo_X4_139 ml_ob rfl ?_
    rw [upd_self]
    refine v_iconst (v := 1) h 37 38 dX4_readsChair_37 rfl (by decide) ?_
    refine v_iadd h 38 39 dX4_readsChair_38 rfl ?_
    rw [nI_1]
    refine v_putM10 h 39 42 dX4_readsChair_39 rfl fw_X4_139 ?_
    rw [upd_upd]
    refine v_aload_n (i := 0) h 42 43 dX4_readsChair_42 rfl rfl ld0 ?_
    refine v_bipush (v := 99) h 43 45 dX4_readsChair_43 rfl (by decide) ?_
    refine v_bipush (v := 99) h 45 47 dX4_readsChair_45 rfl (by decide) ?_
    refine v_callV1 h 47 50 dX4_readsChair_47 rfl cb_X4_isAt cv_X4_isAt ml_ob lk_X4_142 (rok (by decide) (by decide)) ⟨rfl, rfl⟩ ⟨Nat.zero_le _, Nat.zero_le _⟩ (k_isAt e1 hn (i := i + 1) (by omega) _ _) rfl rfl (Nat.le_of_ble_eq_true rfl) ?_
    refine v_if_eq h 50 53 65 dX4_readsChair_50 rfl (by decide) (fun h50 => ?_) (fun h50 => ?_)
    · refine k65 (i + 1) _ _ (by omega) h9 ?_
      rw [rc, if_neg h9, if_pos h50] at f
      exact f
    · refine v_iconst (v := 1) h 53 54 dX4_readsChair_53 rfl (by decide) ?_
      refine v_istore_n (i := 3) h 54 55 dX4_readsChair_54 rfl rfl (by decide) (so3 rfl) ?_
      refine v_aload_n (i := 0) h 55 56 dX4_readsChair_55 rfl rfl ld0 ?_
      refine v_dup h 56 57 dX4_readsChair_56 rfl rfl ?_
      refine v_get h 57 60 dX4_readsChair_57 rfl fo_X4_139 ml_ob rfl ?_
      rw [upd_self]
      refine v_iconst (v := 1) h 60 61 dX4_readsChair_60 rfl (by decide) ?_
      refine v_iadd h 61 62 dX4_readsChair_61 rfl ?_
      rw [nI_1]
      refine v_putM10 h 62 65 dX4_readsChair_62 rfl fw_X4_139 ?_
      rw [upd_upd]
      refine k65 (i + 2) _ _ (by have := (atI_lt h50).1; omega) h9 ?_
      rw [rc, if_neg h9, if_neg h50] at f
      exact f
  · refine v_iconst (v := 0) h 12 13 dX4_readsChair_12 rfl (by decide) ?_
    refine v_zret h 13 f dX4_readsChair_13 rfl rfl (Nat.zero_le _) (Nat.zero_le _) ?_ ?_
    · rw [rc, if_pos h9]
    · rw [rc, if_pos h9]

set_option maxRecDepth 100000 in
set_option maxHeartbeats 4000000 in
theorem k_readsLine {E : EE} {D : Nat} {S : St} {Ps : Nat → St} {A K T N I : St} {hh : Int64} {w : Wo} {n : Nat} (e1 : I 1 = nI n) (hn : n ≤ 100) (hC : Cn S) : Cd E mX4_readsLine (ml E D S Ps A K T N (upd I 4 (nI 0)) hh w) [.ref D] (some (.int (rl T n (n + 1) 0 0 S).1)) (ml E D ((rl T n (n + 1) 0 0 S).2.2) Ps A K T N (upd I 4 (nI (rl T n (n + 1) 0 0 S).2.1)) hh w) := by
  refine Cd.of RX4 rfl (by decide) [some (.ref D), none] (Nat.le_of_ble_eq_true rfl) rfl (fun Γ h f hmn => ?_)
  refine v_iconst (v := 0) h 0 1 dX4_readsLine_0 rfl (by decide) ?_
  refine v_istore_n (i := 1) h 1 2 dX4_readsLine_1 rfl rfl (by decide) (so1 rfl) ?_
  have loop : ∀ (F i k : Nat) (Z : St), n - i < F → i ≤ n → Cn Z → k ≤ 6 → Fn E Γ mX4_readsLine (some (.int (rl T n F i k Z).1)) (ml E D ((rl T n F i k Z).2.2) Ps A K T N (upd I 4 (nI (rl T n F i k Z).2.1)) hh w) → V E Γ 0 0 2 [some (.ref D), some (.int (nI k))] [] (ml E D Z Ps A K T N (upd I 4 (nI i)) hh w) := by
    intro F
    induction F with
    | zero => intro i k Z h0; omega
    | succ F ih =>
      intro i k Z hF hi hC hk f
      rw [rl_s] at f
      have e4 : upd I 4 (nI i) 4 = nI i := upd_self _ _ _
      have e1' : upd I 4 (nI i) 1 = nI n := (upd_ne _ _ (by omega)).trans e1
      refine v_aload_n (i := 0) h 2 3 dX4_readsLine_2 rfl rfl ld0 ?_
      refine v_get h 3 6 dX4_readsLine_3 rfl fo_X4_139 ml_ob rfl ?_
      rw [e4]
      refine v_aload_n (i := 0) h 6 7 dX4_readsLine_6 rfl rfl ld0 ?_
      refine v_get h 7 10 dX4_readsLine_7 rfl fo_X4_136 ml_ob rfl ?_
      rw [e1']
      refine v_icmp_ge h 10 13 69 dX4_readsLine_10 rfl (by decide) (fun h10 => ?_) (fun h10 => ?_)
      · refine v_aload_n (i := 0) h 69 70 dX4_readsLine_69 rfl rfl ld0 ?_
        refine v_get h 70 73 dX4_readsLine_70 rfl fo_X4_7 ml_ob rfl ?_
        refine v_iconst (v := nI 0) h 73 74 dX4_readsLine_73 rfl (by decide) ?_
        refine v_iload_n (i := 1) h 74 75 dX4_readsLine_74 rfl rfl ld1 ?_
        refine v_iconst (v := 1) h 75 76 dX4_readsLine_75 rfl (by decide) ?_
        refine v_iadd h 76 77 dX4_readsLine_76 rfl ?_
        rw [nI_1]
        refine v_istSm h 77 78 _ dX4_readsLine_77 rfl (by omega) ?_
        refine v_iload_n (i := 1) h 78 79 dX4_readsLine_78 rfl rfl ld1 ?_
        refine v_if_le h 79 82 86 dX4_readsLine_79 rfl (by decide) (fun h79 => ?_) (fun h79 => ?_)
        · refine v_iconst (v := 0) h 86 87 dX4_readsLine_86 rfl (by decide) ?_
          refine v_zret h 87 f dX4_readsLine_87 rfl rfl (Nat.zero_le _) (Nat.zero_le _) ?_ ?_
          · rw [if_pos ((nI_leI (by omega) (by omega)).mp h10), if_pos (show k = 0 from Nat.le_zero.mp ((nI_leI (b := 0) (by omega) (by decide)).mp h79))]
          · rw [if_pos ((nI_leI (by omega) (by omega)).mp h10)]
        · refine v_iconst (v := 1) h 82 83 dX4_readsLine_82 rfl (by decide) ?_
          refine v_goto h 83 87 dX4_readsLine_83 (by decide) ?_
          refine v_zret h 87 f dX4_readsLine_87 rfl rfl (Nat.zero_le _) (Nat.zero_le _) ?_ ?_
          · rw [if_pos ((nI_leI (by omega) (by omega)).mp h10), if_neg (show ¬ k = 0 from fun q => h79 (by rw [q]; decide))]
          · rw [if_pos ((nI_leI (by omega) (by omega)).mp h10)]
      · have q10 : i < n := Nat.not_le.mp (fun q => h10 (nI_le q (by omega)))
        refine v_aload_n (i := 0) h 13 14 dX4_readsLine_13 rfl rfl ld0 ?_
        refine v_bipush (v := 49) h 14 16 dX4_readsLine_14 rfl (by decide) ?_
        refine v_bipush (v := 52) h 16 18 dX4_readsLine_16 rfl (by decide) ?_
        refine v_callV1 h 18 21 dX4_readsLine_18 rfl cb_X4_isAt cv_X4_isAt ml_ob lk_X4_142 (rok (by decide) (by decide)) ⟨rfl, rfl⟩ ⟨Nat.zero_le _, Nat.zero_le _⟩ (k_isAt e1 hn hi _ _) rfl rfl (Nat.le_of_ble_eq_true rfl) ?_
        refine v_if_eq h 21 24 34 dX4_readsLine_21 rfl (by decide) (fun h21 => ?_) (fun h21 => ?_)
        · refine v_aload_n (i := 0) h 34 35 dX4_readsLine_34 rfl rfl ld0 ?_
          refine v_bipush (v := 124) h 35 37 dX4_readsLine_35 rfl (by decide) ?_
          refine v_bipush (v := 124) h 37 39 dX4_readsLine_37 rfl (by decide) ?_
          refine v_callV1 h 39 42 dX4_readsLine_39 rfl cb_X4_isAt cv_X4_isAt ml_ob lk_X4_142 (rok (by decide) (by decide)) ⟨rfl, rfl⟩ ⟨Nat.zero_le _, Nat.zero_le _⟩ (k_isAt e1 hn hi _ _) rfl rfl (Nat.le_of_ble_eq_true rfl) ?_
          refine v_if_eq h 42 45 67 dX4_readsLine_42 rfl (by decide) (fun h42 => ?_) (fun h42 => ?_)
          · refine v_iconst (v := 0) h 67 68 dX4_readsLine_67 rfl (by decide) ?_
            refine v_zret h 68 f dX4_readsLine_68 rfl rfl (Nat.zero_le _) (Nat.zero_le _) ?_ ?_
            · rw [if_neg (by omega), if_pos h21, if_pos h42]
            · rw [if_neg (by omega), if_pos h21, if_pos h42]
          · refine v_iload_n (i := 1) h 45 46 dX4_readsLine_45 rfl rfl ld1 ?_
            refine v_bipush (v := 6) h 46 48 dX4_readsLine_46 rfl (by decide) ?_
            refine v_icmp_ge h 48 51 67 dX4_readsLine_48 rfl (by decide) (fun h48 => ?_) (fun h48 => ?_)
            · refine v_iconst (v := 0) h 67 68 dX4_readsLine_67 rfl (by decide) ?_
              refine v_zret h 68 f dX4_readsLine_68 rfl rfl (Nat.zero_le _) (Nat.zero_le _) ?_ ?_
              · have q6 : 6 ≤ k := (nI_leI (a := 6) (by decide) (by omega)).mp h48
                rw [if_neg (by omega), if_pos h21, if_neg h42, if_pos q6]
              · have q6 : 6 ≤ k := (nI_leI (a := 6) (by decide) (by omega)).mp h48
                rw [if_neg (by omega), if_pos h21, if_neg h42, if_pos q6]
            · refine v_iinc (i := 1) h 51 54 dX4_readsLine_51 rfl ld1 (by first | exact iinc1 _ | rfl) (by decide) (so1 rfl) ?_
              refine v_aload_n (i := 0) h 54 55 dX4_readsLine_54 rfl rfl ld0 ?_
              refine v_dup h 55 56 dX4_readsLine_55 rfl rfl ?_
              refine v_get h 56 59 dX4_readsLine_56 rfl fo_X4_139 ml_ob rfl ?_
              rw [e4]
              refine v_iconst (v := 1) h 59 60 dX4_readsLine_59 rfl (by decide) ?_
              refine v_iadd h 60 61 dX4_readsLine_60 rfl ?_
              rw [nI_1]
              refine v_putM10 h 61 64 dX4_readsLine_61 rfl fw_X4_139 ?_
              refine v_goto h 64 2 dX4_readsLine_64 (by decide) ?_
              rw [upd_upd]
              have q6 : k < 6 := Nat.not_le.mp (fun q => h48 (nI_le (a := 6) q (by omega)))
              rw [if_neg (by omega), if_pos h21, if_neg h42, if_neg (by omega)] at f
              exact ih (i + 1) (k + 1) Z (by omega) (by omega) hC (by omega) f
        · refine v_aload_n (i := 0) h 24 25 dX4_readsLine_24 rfl rfl ld0 ?_
          refine v_iload_n (i := 1) h 25 26 dX4_readsLine_25 rfl rfl ld1 ?_
          refine v_callV1 h 26 29 dX4_readsLine_26 rfl cb_X4_readsChair cv_X4_readsChair ml_ob lk_X4_146 (rok (by decide) (by decide)) ⟨rfl, rfl⟩ ⟨Nat.zero_le _, Nat.zero_le _⟩ (k_readsChair e1 hn q10 hC) rfl rfl (Nat.le_of_ble_eq_true rfl) ?_
          refine v_if_ne h 29 32 2 dX4_readsLine_29 rfl (by decide) (fun h29 => ?_) (fun h29 => ?_)
          · rw [if_neg (by omega), if_neg h21, if_neg h29] at f
            obtain ⟨a, b, c⟩ := rc_in (T := T) (k := k) q10 hC
            have c := c h29
            exact ih _ k _ (by omega) a b hk f
          · refine v_iconst (v := 0) h 32 33 dX4_readsLine_32 rfl (by decide) ?_
            refine v_zret h 33 f dX4_readsLine_33 rfl rfl (Nat.zero_le _) (Nat.zero_le _) ?_ ?_
            · rw [if_neg (by omega), if_neg h21, if_pos h29]
            · rw [if_neg (by omega), if_neg h21, if_pos h29]
  exact loop (n + 1) 0 0 S (by omega) (by omega) hC (by omega) f

def z0 : St := fun k => if 1 ≤ k ∧ k < 7 then 4 else 0
def z0t (k : Nat) (x y : Int32) : Int32 := if 1 ≤ k ∧ k < 7 then x else y
set_option maxRecDepth 100000 in
set_option maxHeartbeats 4000000 in
theorem r_parseNo {E : EE} {D : Nat} {S : St} {Ps : Nat → St} {A K T N I : St} {hh : Int64} {w : Wo} {n : Nat} (e1 : I 1 = nI n) (hn : n ≤ 100) {p : Nat} {Z : St} (hr : rl T n (n + 1) 0 0 z0 = (0, p, Z)) : Cd E mX4_parse (ml E D S Ps A K T N I hh w) [.ref D] (some (.int (-10 - nI p))) (ml E D S Ps S K T N (upd (upd I 4 (nI p)) 2 0) hh w) := by
  refine Cd.of RX4 rfl (by decide) [some (.ref D), none] (Nat.le_of_ble_eq_true rfl) rfl (fun Γ h f hmn => ?_)
  have hC0 : Cn z0 := ⟨0, by omega, rfl⟩
  have z1 : ∀ j, j < 171 → (if nI j < 1 then (0 : Int32) else if 6 < nI j then 0 else 1) = if 1 ≤ j ∧ j < 7 then 1 else 0 := by
    intro j hj
    show (if nI j < nI 1 then (0 : Int32) else if nI 6 < nI j then 0 else 1) = _
    by_cases a : j < 1
    · rw [if_pos (show nI j < nI 1 from nI_lt a (by decide)), if_neg (by omega)]
    · rw [if_neg (show ¬ nI j < nI 1 from nI_nlt (by omega) (by omega))]
      by_cases b : 6 < j
      · rw [if_pos (show nI 6 < nI j from nI_lt b (by omega)), if_neg (by omega)]
      · rw [if_neg (show ¬ nI 6 < nI j from nI_nlt (by omega) (by decide)), if_pos (by omega)]
  refine v_aload_n (i := 0) h 0 1 dX4_parse_0 rfl rfl ld0 ?_
  refine v_callV0 h 1 4 dX4_parse_1 rfl cb_X4_hold cv_X4_hold ml_ob lk_X4_99 (rok (by decide) (by decide)) ⟨rfl, rfl⟩ ⟨Nat.zero_le _, Nat.zero_le _⟩ k_hold rfl rfl (Nat.le_of_ble_eq_true rfl) ?_
  refine v_iconst (v := 0) h 4 5 dX4_parse_4 rfl (by decide) ?_
  refine v_istore_n (i := 1) h 5 6 dX4_parse_5 rfl rfl (by decide) (so1 rfl) ?_
  have loop6 : ∀ d j, j + d = 171 → V E Γ 0 0 6 [some (.ref D), some (.int (nI j))] [] (ml E D (cpA S z0 j) Ps S K T N I hh w) := by
    intro d
    induction d with
    | zero =>
      intro j hj
      obtain rfl : 171 = j := by omega
      refine v_iload_n (i := 1) h 6 7 dX4_parse_6 rfl rfl ld1 ?_
      refine v_sipush (v := nI 171) h 7 10 dX4_parse_7 rfl (by decide) ?_
      refine v_icmp_ge h 10 13 40 dX4_parse_10 rfl (by decide) (fun h10 => ?_) (fun h10 => absurd (nI_le (Nat.le_refl _) (by decide)) h10)
      refine V.world (w' := ml E D z0 Ps S K T N I hh w) (ml_sE (fun j hj => if_pos hj)) ?_
      refine v_aload_n (i := 0) h 40 41 dX4_parse_40 rfl rfl ld0 ?_
      refine v_iconst (v := 0) h 41 42 dX4_parse_41 rfl (by decide) ?_
      refine v_putM10 h 42 45 dX4_parse_42 rfl fw_X4_139 ?_
      refine v_aload_n (i := 0) h 45 46 dX4_parse_45 rfl rfl ld0 ?_
      refine v_callV1 h 46 49 dX4_parse_46 rfl cb_X4_readsLine cv_X4_readsLine ml_ob lk_X4_149 (rok (by decide) (by decide)) ⟨rfl, rfl⟩ ⟨Nat.zero_le _, Nat.zero_le _⟩ (k_readsLine e1 hn hC0) rfl rfl (Nat.le_of_ble_eq_true rfl) ?_
      rw [hr]
      refine v_if_ne h 49 52 75 dX4_parse_49 rfl (by decide) (fun h49 => absurd rfl h49) (fun h49 => ?_)
      refine v_aload_n (i := 0) h 52 53 dX4_parse_52 rfl rfl ld0 ?_
      refine v_get h 53 56 dX4_parse_53 rfl fo_X4_7 ml_ob rfl ?_
      refine v_aload_n (i := 0) h 56 57 dX4_parse_56 rfl rfl ld0 ?_
      refine v_get h 57 60 dX4_parse_57 rfl fo_X4_16 ml_ob rfl ?_
      refine v_callS0 h 60 63 dX4_parse_60 rfl cb_X4_copies cs_X4_copies lk_X4_32 (rok (by decide) (by decide)) ⟨rfl, rfl⟩ ⟨Nat.zero_le _, Nat.zero_le _⟩ k_cSA rfl rfl (Nat.le_of_ble_eq_true rfl) ?_
      refine v_aload_n (i := 0) h 63 64 dX4_parse_63 rfl rfl ld0 ?_
      refine v_bipush (v := (-10)) h 64 66 dX4_parse_64 rfl (by decide) ?_
      refine v_aload_n (i := 0) h 66 67 dX4_parse_66 rfl rfl ld0 ?_
      refine v_get h 67 70 dX4_parse_67 rfl fo_X4_139 ml_ob rfl ?_
      rw [upd_self]
      refine v_isub h 70 71 dX4_parse_70 rfl ?_
      refine v_callV1 h 71 74 dX4_parse_71 rfl cb_X4_tells cv_X4_tells ml_ob lk_X4_39 (rok (by decide) (by decide)) ⟨rfl, rfl⟩ ⟨Nat.zero_le _, Nat.zero_le _⟩ (k_tells _) rfl rfl (Nat.le_of_ble_eq_true rfl) ?_
      exact v_iret h 74 f dX4_parse_74 rfl (Nat.zero_le _) (Nat.zero_le _) rfl rfl
    | succ d ih =>
      intro j hj
      refine v_iload_n (i := 1) h 6 7 dX4_parse_6 rfl rfl ld1 ?_
      refine v_sipush (v := nI 171) h 7 10 dX4_parse_7 rfl (by decide) ?_
      refine v_icmp_ge h 10 13 40 dX4_parse_10 rfl (by decide) (fun h10 => absurd h10 (nI_ge (by omega) (by decide))) (fun h10 => ?_)
      refine v_aload_n (i := 0) h 13 14 dX4_parse_13 rfl rfl ld0 ?_
      refine v_get h 14 17 dX4_parse_14 rfl fo_X4_7 ml_ob rfl ?_
      refine v_iload_n (i := 1) h 17 18 dX4_parse_17 rfl rfl ld1 ?_
      refine v_iload_n (i := 1) h 18 19 dX4_parse_18 rfl rfl ld1 ?_
      refine v_iconst (v := 1) h 19 20 dX4_parse_19 rfl (by decide) ?_
      refine v_bipush (v := 6) h 20 22 dX4_parse_20 rfl (by decide) ?_
      refine v_callS1 h 22 25 dX4_parse_22 rfl cb_X4_in cs_X4_in lk_X4_95 (rok (by decide) (by decide)) ⟨rfl, rfl⟩ ⟨Nat.zero_le _, Nat.zero_le _⟩ (k_in _ _ _) rfl rfl (Nat.le_of_ble_eq_true rfl) ?_
      rw [z1 j (by omega)]
      refine v_if_eq h 25 28 32 dX4_parse_25 rfl (by decide) (fun h25 => ?_) (fun h25 => ?_)
      · refine v_iconst (v := 0) h 32 33 dX4_parse_32 rfl (by decide) ?_
        refine v_istSm h 33 34 _ dX4_parse_33 rfl (by omega) ?_
        refine v_iinc (i := 1) h 34 37 dX4_parse_34 rfl ld1 (by first | exact iinc1 _ | rfl) (by decide) (so1 rfl) ?_
        refine v_goto h 37 6 dX4_parse_37 (by decide) ?_
        refine V.world (w' := ml E D (cpA S z0 (j + 1)) Ps S K T N I hh w) (by rw [← cpA_s]; unfold z0; rw [if_neg (fun q => by rw [if_pos q] at h25; exact absurd h25 (by decide))]) (V.weakT (ih (j + 1) (by omega)) (And.intro rfl (And.intro rfl trivial)))
      · refine v_iconst (v := 4) h 28 29 dX4_parse_28 rfl (by decide) ?_
        refine v_goto h 29 33 dX4_parse_29 (by decide) ?_
        refine v_istSm h 33 34 _ dX4_parse_33 rfl (by omega) ?_
        refine v_iinc (i := 1) h 34 37 dX4_parse_34 rfl ld1 (by first | exact iinc1 _ | rfl) (by decide) (so1 rfl) ?_
        refine v_goto h 37 6 dX4_parse_37 (by decide) ?_
        refine V.world (w' := ml E D (cpA S z0 (j + 1)) Ps S K T N I hh w) (by rw [← cpA_s]; unfold z0; rw [if_pos (by by_cases q : 1 ≤ j ∧ j < 7; exact q; exact absurd (by rw [if_neg q]) h25)]) (V.weakT (ih (j + 1) (by omega)) (And.intro rfl (And.intro rfl trivial)))
  exact V.weakT (loop6 171 0 (by omega)) (And.intro rfl (And.intro rfl trivial))

set_option maxRecDepth 100000 in
set_option maxHeartbeats 4000000 in
theorem r_parseYes {E : EE} {D : Nat} {S : St} {Ps : Nat → St} {A K T N I : St} {hh : Int64} {w : Wo} {n : Nat} (e1 : I 1 = nI n) (hn : n ≤ 100) {p : Nat} {Z : St} (hr : rl T n (n + 1) 0 0 z0 = (1, p, Z)) {ks : Nat} (hks : ks ≤ 4) (e0 : I 0 = nI ks) : Cd E mX4_parse (ml E D S Ps A K T N I hh w) [.ref D] (some (.int (Z 7))) (ml E D Z (psh Ps S ks) S K T N (upd (upd (upd I 4 (nI p)) 0 (nI (min 4 (ks + 1)))) 2 0) hh w) := by
  refine Cd.of RX4 rfl (by decide) [some (.ref D), none] (Nat.le_of_ble_eq_true rfl) rfl (fun Γ h f hmn => ?_)
  have hC0 : Cn z0 := ⟨0, by omega, rfl⟩
  have z1 : ∀ j, j < 171 → (if nI j < 1 then (0 : Int32) else if 6 < nI j then 0 else 1) = if 1 ≤ j ∧ j < 7 then 1 else 0 := by
    intro j hj
    show (if nI j < nI 1 then (0 : Int32) else if nI 6 < nI j then 0 else 1) = _
    by_cases a : j < 1
    · rw [if_pos (show nI j < nI 1 from nI_lt a (by decide)), if_neg (by omega)]
    · rw [if_neg (show ¬ nI j < nI 1 from nI_nlt (by omega) (by omega))]
      by_cases b : 6 < j
      · rw [if_pos (show nI 6 < nI j from nI_lt b (by omega)), if_neg (by omega)]
      · rw [if_neg (show ¬ nI 6 < nI j from nI_nlt (by omega) (by decide)), if_pos (by omega)]
  refine v_aload_n (i := 0) h 0 1 dX4_parse_0 rfl rfl ld0 ?_
  refine v_callV0 h 1 4 dX4_parse_1 rfl cb_X4_hold cv_X4_hold ml_ob lk_X4_99 (rok (by decide) (by decide)) ⟨rfl, rfl⟩ ⟨Nat.zero_le _, Nat.zero_le _⟩ k_hold rfl rfl (Nat.le_of_ble_eq_true rfl) ?_
  refine v_iconst (v := 0) h 4 5 dX4_parse_4 rfl (by decide) ?_
  refine v_istore_n (i := 1) h 5 6 dX4_parse_5 rfl rfl (by decide) (so1 rfl) ?_
  have loop6 : ∀ d j, j + d = 171 → V E Γ 0 0 6 [some (.ref D), some (.int (nI j))] [] (ml E D (cpA S z0 j) Ps S K T N I hh w) := by
    intro d
    induction d with
    | zero =>
      intro j hj
      obtain rfl : 171 = j := by omega
      refine v_iload_n (i := 1) h 6 7 dX4_parse_6 rfl rfl ld1 ?_
      refine v_sipush (v := nI 171) h 7 10 dX4_parse_7 rfl (by decide) ?_
      refine v_icmp_ge h 10 13 40 dX4_parse_10 rfl (by decide) (fun h10 => ?_) (fun h10 => absurd (nI_le (Nat.le_refl _) (by decide)) h10)
      refine V.world (w' := ml E D z0 Ps S K T N I hh w) (ml_sE (fun j hj => if_pos hj)) ?_
      refine v_aload_n (i := 0) h 40 41 dX4_parse_40 rfl rfl ld0 ?_
      refine v_iconst (v := 0) h 41 42 dX4_parse_41 rfl (by decide) ?_
      refine v_putM10 h 42 45 dX4_parse_42 rfl fw_X4_139 ?_
      refine v_aload_n (i := 0) h 45 46 dX4_parse_45 rfl rfl ld0 ?_
      refine v_callV1 h 46 49 dX4_parse_46 rfl cb_X4_readsLine cv_X4_readsLine ml_ob lk_X4_149 (rok (by decide) (by decide)) ⟨rfl, rfl⟩ ⟨Nat.zero_le _, Nat.zero_le _⟩ (k_readsLine e1 hn hC0) rfl rfl (Nat.le_of_ble_eq_true rfl) ?_
      rw [hr]
      refine v_if_ne h 49 52 75 dX4_parse_49 rfl (by decide) (fun h49 => ?_) (fun h49 => absurd h49 (show ¬ (1 : Int32) = 0 by decide))
      refine v_aload_n (i := 0) h 75 76 dX4_parse_75 rfl rfl ld0 ?_
      refine v_aload_n (i := 0) h 76 77 dX4_parse_76 rfl rfl ld0 ?_
      refine v_get h 77 80 dX4_parse_77 rfl fo_X4_7 ml_ob rfl ?_
      refine v_bipush (v := nI 7) h 80 82 dX4_parse_80 rfl (by decide) ?_
      refine v_ildSm h 82 83 _ dX4_parse_82 rfl (by omega) ?_
      refine v_callV1 h 83 86 dX4_parse_83 rfl cb_X4_ends cv_X4_ends ml_ob lk_X4_106 (rok (by decide) (by decide)) ⟨rfl, rfl⟩ ⟨Nat.zero_le _, Nat.zero_le _⟩ (k_ends hks ((upd_ne _ _ (by omega)).trans e0) _) rfl rfl (Nat.le_of_ble_eq_true rfl) ?_
      exact v_iret h 86 f dX4_parse_86 rfl (Nat.zero_le _) (Nat.zero_le _) rfl rfl
    | succ d ih =>
      intro j hj
      refine v_iload_n (i := 1) h 6 7 dX4_parse_6 rfl rfl ld1 ?_
      refine v_sipush (v := nI 171) h 7 10 dX4_parse_7 rfl (by decide) ?_
      refine v_icmp_ge h 10 13 40 dX4_parse_10 rfl (by decide) (fun h10 => absurd h10 (nI_ge (by omega) (by decide))) (fun h10 => ?_)
      refine v_aload_n (i := 0) h 13 14 dX4_parse_13 rfl rfl ld0 ?_
      refine v_get h 14 17 dX4_parse_14 rfl fo_X4_7 ml_ob rfl ?_
      refine v_iload_n (i := 1) h 17 18 dX4_parse_17 rfl rfl ld1 ?_
      refine v_iload_n (i := 1) h 18 19 dX4_parse_18 rfl rfl ld1 ?_
      refine v_iconst (v := 1) h 19 20 dX4_parse_19 rfl (by decide) ?_
      refine v_bipush (v := 6) h 20 22 dX4_parse_20 rfl (by decide) ?_
      refine v_callS1 h 22 25 dX4_parse_22 rfl cb_X4_in cs_X4_in lk_X4_95 (rok (by decide) (by decide)) ⟨rfl, rfl⟩ ⟨Nat.zero_le _, Nat.zero_le _⟩ (k_in _ _ _) rfl rfl (Nat.le_of_ble_eq_true rfl) ?_
      rw [z1 j (by omega)]
      refine v_if_eq h 25 28 32 dX4_parse_25 rfl (by decide) (fun h25 => ?_) (fun h25 => ?_)
      · refine v_iconst (v := 0) h 32 33 dX4_parse_32 rfl (by decide) ?_
        refine v_istSm h 33 34 _ dX4_parse_33 rfl (by omega) ?_
        refine v_iinc (i := 1) h 34 37 dX4_parse_34 rfl ld1 (by first | exact iinc1 _ | rfl) (by decide) (so1 rfl) ?_
        refine v_goto h 37 6 dX4_parse_37 (by decide) ?_
        refine V.world (w' := ml E D (cpA S z0 (j + 1)) Ps S K T N I hh w) (by rw [← cpA_s]; unfold z0; rw [if_neg (fun q => by rw [if_pos q] at h25; exact absurd h25 (by decide))]) (V.weakT (ih (j + 1) (by omega)) (And.intro rfl (And.intro rfl trivial)))
      · refine v_iconst (v := 4) h 28 29 dX4_parse_28 rfl (by decide) ?_
        refine v_goto h 29 33 dX4_parse_29 (by decide) ?_
        refine v_istSm h 33 34 _ dX4_parse_33 rfl (by omega) ?_
        refine v_iinc (i := 1) h 34 37 dX4_parse_34 rfl ld1 (by first | exact iinc1 _ | rfl) (by decide) (so1 rfl) ?_
        refine v_goto h 37 6 dX4_parse_37 (by decide) ?_
        refine V.world (w' := ml E D (cpA S z0 (j + 1)) Ps S K T N I hh w) (by rw [← cpA_s]; unfold z0; rw [if_pos (by by_cases q : 1 ≤ j ∧ j < 7; exact q; exact absurd (by rw [if_neg q]) h25)]) (V.weakT (ih (j + 1) (by omega)) (And.intro rfl (And.intro rfl trivial)))
  exact V.weakT (loop6 171 0 (by omega)) (And.intro rfl (And.intro rfl trivial))

