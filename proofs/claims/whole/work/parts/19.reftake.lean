/-! THE REFERENCE TAKES A CHAIR; A MINUTE; WHAT IT FORESEES -/
theorem waySum_ge {S : St} (h : ∀ k, k < 6 → ∃ x, 1 ≤ x ∧ x ≤ 20 ∧ S (1 + k) = nI x) (lo : Nat) : ∀ n, lo + n ≤ 6 → ∃ x, n ≤ x ∧ x ≤ 20 * n ∧ waySum S lo n = nI x := by
  intro n
  induction n with
  | zero => intro _; exact ⟨0, Nat.le_refl _, Nat.le_refl _, rfl⟩
  | succ n ih =>
    intro hn
    obtain ⟨x, a, b, e⟩ := ih (by omega)
    obtain ⟨y, c, d, e2⟩ := h (lo + n) (by omega)
    refine ⟨x + y, by omega, by omega, ?_⟩
    rw [waySum, e, e2, nI_add]
theorem wayV_0 {S : St} (h : ∀ k, k < 6 → ∃ x, 1 ≤ x ∧ x ≤ 20 ∧ S (1 + k) = nI x) {x y : Int32} (hx : InS x) (hy : InS y) (hz : wayV S x y = 0) : x = y := by
  obtain ⟨a, ha, rfl⟩ := hx
  obtain ⟨b, hb, rfl⟩ := hy
  unfold wayV at hz
  rw [nI_clamp (by omega), nI_clamp (by omega)] at hz
  obtain ⟨v, h1, h2, h3⟩ := waySum_ge h (min a b) (max a b - min a b) (by omega)
  rw [h3] at hz
  have := nI_inj (b := 0) (by omega) (by omega) hz
  rw [show a = b by omega]
theorem waySum_eq {S S' : St} (h : ∀ k, k < 6 → S' (1 + k) = S (1 + k)) (lo : Nat) : ∀ n, lo + n ≤ 6 → waySum S' lo n = waySum S lo n := by
  intro n
  induction n with
  | zero => intro _; rfl
  | succ n ih =>
    intro hn
    rw [waySum, waySum, ih (by omega), h (lo + n) (by omega)]
theorem wayV_eq {S S' : St} (h : ∀ k, k < 6 → S' (1 + k) = S (1 + k)) {x y : Int32} (hx : InS x) (hy : InS y) : wayV S' x y = wayV S x y := by
  obtain ⟨a, ha, rfl⟩ := hx
  obtain ⟨b, hb, rfl⟩ := hy
  unfold wayV
  rw [nI_clamp (by omega), nI_clamp (by omega), waySum_eq h _ _ (by omega)]
set_option maxRecDepth 100000 in
set_option maxHeartbeats 4000000 in
theorem k_takes {E : EE} {D : Nat} {S : St} {Ps : Nat → St} {A K T N I : St} {hh : Int64} {w : Wo} {sp nc nt ne m : Nat} {t : Nat} (hI : Inv S sp nc nt ne m) (ht : t < nt) (hz : S (125 + 8 * t + 2) = 0) : Cd E mX4_takes (ml E D S Ps A K T N I hh w) [.ref D, .int (nI t)] (none) (ml E D (takeS S nc nt t) Ps A K T N I hh w) := by
  refine Cd.of RX4 rfl (by decide) [some (.ref D), some (.int (nI t)), none, none] (Nat.le_of_ble_eq_true rfl) rfl (fun Γ h f hmn => ?_)
  have hnt := hI.n4
  have hnc := hI.n14
  have ht4 : t < 4 := by omega
  unfold takeS at f
  rw [if_pos hz] at f
  refine v_aload_n (i := 0) h 0 1 dX4_takes_0 rfl rfl ld0 ?_
  refine v_aload_n (i := 0) h 1 2 dX4_takes_1 rfl rfl ld0 ?_
  refine v_iload_n (i := 1) h 2 3 dX4_takes_2 rfl rfl ld1 ?_
  refine v_iconst (v := 0) h 3 4 dX4_takes_3 rfl (by decide) ?_
  refine v_callV1 h 4 7 dX4_takes_4 rfl cb_X4_ofTeam cv_X4_ofTeam ml_ob lk_X4_47 (rok (by decide) (by decide)) ⟨rfl, rfl⟩ ⟨Nat.zero_le _, Nat.zero_le _⟩ (k_ofTeam (c := t) (k := 0) (by omega) (by decide)) rfl rfl (Nat.le_of_ble_eq_true rfl) ?_
  refine v_callV1 h 7 10 dX4_takes_7 rfl cb_X4_choiceAt cv_X4_choiceAt ml_ob lk_X4_73 (rok (by decide) (by decide)) ⟨rfl, rfl⟩ ⟨Nat.zero_le _, Nat.zero_le _⟩ (k_choiceM hI (hI.InT t ht)) rfl rfl (Nat.le_of_ble_eq_true rfl) ?_
  refine v_istore_n (i := 2) h 10 11 dX4_takes_10 rfl rfl (by decide) (so2 rfl) ?_
  refine v_iload_n (i := 2) h 11 12 dX4_takes_11 rfl rfl ld2 ?_
  refine v_iconst (v := (-1)) h 12 13 dX4_takes_12 rfl (by decide) ?_
  refine v_icmp_ne h 13 16 17 dX4_takes_13 rfl (by decide) (fun h13 => ?_) (fun h13 => ?_)
  · obtain ⟨c, hc, e1, h0⟩ := (chs_in S (S (125 + 8 * t + 0)) nc (by omega)).resolve_left h13
    rw [e1]
    rw [if_neg h13, e1, cnt, nI_clamp (by omega), tak2, wayV_eq (S := S) (S' := takS S t c) (fun k hk => tak_ne (by omega) (by omega) (by omega)) (by rw [tak_ne (by omega) (by omega) (by omega)]; exact hI.InT t ht) (by rw [tak_ne (by omega) (by omega) (by omega)]; exact hI.InC c hc), tak_ne (i := 125 + 8 * t + 0) (by omega) (by omega) (by omega), tak_ne (i := 13 + 8 * c + 0) (by omega) (by omega) (by omega)] at f
    refine v_aload_n (i := 0) h 17 18 dX4_takes_17 rfl rfl ld0 ?_
    refine v_aload_n (i := 0) h 18 19 dX4_takes_18 rfl rfl ld0 ?_
    refine v_iload_n (i := 1) h 19 20 dX4_takes_19 rfl rfl ld1 ?_
    refine v_iconst (v := 0) h 20 21 dX4_takes_20 rfl (by decide) ?_
    refine v_callV1 h 21 24 dX4_takes_21 rfl cb_X4_ofTeam cv_X4_ofTeam ml_ob lk_X4_47 (rok (by decide) (by decide)) ⟨rfl, rfl⟩ ⟨Nat.zero_le _, Nat.zero_le _⟩ (k_ofTeam (c := t) (k := 0) (by omega) (by decide)) rfl rfl (Nat.le_of_ble_eq_true rfl) ?_
    refine v_aload_n (i := 0) h 24 25 dX4_takes_24 rfl rfl ld0 ?_
    refine v_iload_n (i := 2) h 25 26 dX4_takes_25 rfl rfl ld2 ?_
    refine v_iconst (v := 0) h 26 27 dX4_takes_26 rfl (by decide) ?_
    refine v_callV1 h 27 30 dX4_takes_27 rfl cb_X4_of cv_X4_of ml_ob lk_X4_43 (rok (by decide) (by decide)) ⟨rfl, rfl⟩ ⟨Nat.zero_le _, Nat.zero_le _⟩ (k_of (c := c) (k := 0) (by omega) (by decide)) rfl rfl (Nat.le_of_ble_eq_true rfl) ?_
    refine v_callV1 h 30 33 dX4_takes_30 rfl cb_X4_wayOf cv_X4_wayOf ml_ob lk_X4_53 (rok (by decide) (by decide)) ⟨rfl, rfl⟩ ⟨Nat.zero_le _, Nat.zero_le _⟩ (k_wayOf (hI.InT t ht) (hI.InC c hc)) rfl rfl (Nat.le_of_ble_eq_true rfl) ?_
    refine v_istore_n (i := 3) h 33 34 dX4_takes_33 rfl rfl (by decide) (so3 rfl) ?_
    refine v_aload_n (i := 0) h 34 35 dX4_takes_34 rfl rfl ld0 ?_
    refine v_iload_n (i := 2) h 35 36 dX4_takes_35 rfl rfl ld2 ?_
    refine v_iconst (v := 4) h 36 37 dX4_takes_36 rfl (by decide) ?_
    refine v_iconst (v := 1) h 37 38 dX4_takes_37 rfl (by decide) ?_
    refine v_callV0 h 38 41 dX4_takes_38 rfl cb_X4_puts cv_X4_puts ml_ob lk_X4_60 (rok (by decide) (by decide)) ⟨rfl, rfl⟩ ⟨Nat.zero_le _, Nat.zero_le _⟩ (k_puts (c := c) (k := 4) (by omega) (by decide) _) rfl rfl (Nat.le_of_ble_eq_true rfl) ?_
    refine v_aload_n (i := 0) h 41 42 dX4_takes_41 rfl rfl ld0 ?_
    refine v_iload_n (i := 2) h 42 43 dX4_takes_42 rfl rfl ld2 ?_
    refine v_iconst (v := 5) h 43 44 dX4_takes_43 rfl (by decide) ?_
    refine v_iload_n (i := 1) h 44 45 dX4_takes_44 rfl rfl ld1 ?_
    refine v_callV0 h 45 48 dX4_takes_45 rfl cb_X4_puts cv_X4_puts ml_ob lk_X4_60 (rok (by decide) (by decide)) ⟨rfl, rfl⟩ ⟨Nat.zero_le _, Nat.zero_le _⟩ (k_puts (c := c) (k := 5) (by omega) (by decide) _) rfl rfl (Nat.le_of_ble_eq_true rfl) ?_
    refine v_aload_n (i := 0) h 48 49 dX4_takes_48 rfl rfl ld0 ?_
    refine v_iload_n (i := 1) h 49 50 dX4_takes_49 rfl rfl ld1 ?_
    refine v_iconst (v := 4) h 50 51 dX4_takes_50 rfl (by decide) ?_
    refine v_iload_n (i := 2) h 51 52 dX4_takes_51 rfl rfl ld2 ?_
    refine v_callV0 h 52 55 dX4_takes_52 rfl cb_X4_putsTeam cv_X4_putsTeam ml_ob lk_X4_56 (rok (by decide) (by decide)) ⟨rfl, rfl⟩ ⟨Nat.zero_le _, Nat.zero_le _⟩ (k_putsTeam (c := t) (k := 4) (by omega) (by decide) _) rfl rfl (Nat.le_of_ble_eq_true rfl) ?_
    refine v_aload_n (i := 0) h 55 56 dX4_takes_55 rfl rfl ld0 ?_
    refine v_iload_n (i := 1) h 56 57 dX4_takes_56 rfl rfl ld1 ?_
    refine v_iload_n (i := 3) h 57 58 dX4_takes_57 rfl rfl ld3 ?_
    refine v_if_ne h 58 61 65 dX4_takes_58 rfl (by decide) (fun h58 => ?_) (fun h58 => ?_)
    · refine v_iconst (v := 1) h 65 66 dX4_takes_65 rfl (by decide) ?_
      refine v_iload_n (i := 3) h 66 67 dX4_takes_66 rfl rfl ld3 ?_
      refine v_if_ne h 67 70 79 dX4_takes_67 rfl (by decide) (fun h67 => ?_) (fun h67 => absurd h67 h58)
      refine v_iload_n (i := 3) h 79 80 dX4_takes_79 rfl rfl ld3 ?_
      refine v_callV0 h 80 83 dX4_takes_80 rfl cb_X4_begins cv_X4_begins ml_ob lk_X4_63 (rok (by decide) (by decide)) ⟨rfl, rfl⟩ ⟨Nat.zero_le _, Nat.zero_le _⟩ (k_begins ht4 _ _) rfl rfl (Nat.le_of_ble_eq_true rfl) ?_
      refine v_ret h 83 f dX4_takes_83 rfl (Nat.zero_le _) (Nat.zero_le _) ?_ ?_
      · rfl
      · rw [if_neg h58]
        rfl
    · refine v_iconst (v := 2) h 61 62 dX4_takes_61 rfl (by decide) ?_
      refine v_goto h 62 66 dX4_takes_62 (by decide) ?_
      refine v_iload_n (i := 3) h 66 67 dX4_takes_66 rfl rfl ld3 ?_
      refine v_if_ne h 67 70 79 dX4_takes_67 rfl (by decide) (fun h67 => absurd h58 h67) (fun h67 => ?_)
      refine v_aload_n (i := 0) h 70 71 dX4_takes_70 rfl rfl ld0 ?_
      refine v_iload_n (i := 2) h 71 72 dX4_takes_71 rfl rfl ld2 ?_
      refine v_iload_n (i := 1) h 72 73 dX4_takes_72 rfl rfl ld1 ?_
      refine v_callV1 h 73 76 dX4_takes_73 rfl cb_X4_workOf cv_X4_workOf ml_ob lk_X4_66 (rok (by decide) (by decide)) ⟨rfl, rfl⟩ ⟨Nat.zero_le _, Nat.zero_le _⟩ (k_workM hnt (by omega) ht ((show takS S t c 8 = S 8 from tak_ne (by omega) (by omega) (by omega)).trans hI.c8) (by simp (disch := omega) only [upd_ne]; exact (hI.2.2.1 c hc).2.1) (by simp (disch := omega) only [upd_ne]; exact (hI.2.2.2 t ht).2.1)) rfl rfl (Nat.le_of_ble_eq_true rfl) ?_
      refine v_goto h 76 80 dX4_takes_76 (by decide) ?_
      refine v_callV0 h 80 83 dX4_takes_80 rfl cb_X4_begins cv_X4_begins ml_ob lk_X4_63 (rok (by decide) (by decide)) ⟨rfl, rfl⟩ ⟨Nat.zero_le _, Nat.zero_le _⟩ (k_begins ht4 _ _) rfl rfl (Nat.le_of_ble_eq_true rfl) ?_
      refine v_ret h 83 f dX4_takes_83 rfl (Nat.zero_le _) (Nat.zero_le _) ?_ ?_
      · rfl
      · rw [if_pos h58]
        refine congrArg (fun z => ml E D z Ps A K T N I hh w) ?_
        have q0 : S (125 + 8 * t + 0) = S (13 + 8 * c + 0) := wayV_0 hI.1.1.2.2.2 (hI.InT t ht) (hI.InC c hc) h58
        have q1 : upd (takS S t c) (125 + 8 * t + 0) (takS S t c (13 + 8 * c + 0)) = takS S t c := upd_is (by rw [tak_ne (by omega) (by omega) (by omega), tak_ne (by omega) (by omega) (by omega)]; exact q0)
        rw [bringS, q1, upd_comm (i := 125 + 8 * t + 3) (j := 125 + 8 * t + 2) (by omega)]
        rfl
  · refine v_ret h 16 f dX4_takes_16 rfl (Nat.zero_le _) (Nat.zero_le _) ?_ ?_
    · rfl
    · rw [if_pos h13]

theorem cold1_is {S : St} {sp nc nt ne m c : Nat} (hI : Inv S sp nc nt ne m) (hc : c < nc) : upd S (13 + 8 * c + 2) (if 2 ≤ S (13 + 8 * c + 4) then S (13 + 8 * c + 2) else if 20 ≤ S (13 + 8 * c + 2) then S (13 + 8 * c + 2) else S (13 + 8 * c + 2) + 1) = cold1 S c := by
  obtain ⟨-, -, ⟨k, hk, e⟩, -, d⟩ := hI.2.2.1 c hc
  unfold cold1
  by_cases h : S (13 + 8 * c + 4) = 2
  · rw [if_pos (by rw [h]; decide), if_pos h, upd_same]
  · rw [if_neg h, if_neg (by rcases d with d | d | d <;> first | exact absurd d h | (rw [d]; decide)), e, min20 k (by omega)]
    by_cases h2 : k = 20
    · subst h2
      rw [if_pos (by decide)]
      rfl
    · rw [if_neg (show ¬ (20 : Int32) ≤ nI k from nI_ge (a := k) (b := 20) (by omega) (by decide)), nI_1, Nat.min_eq_right (by omega)]
theorem rem10' {m : Nat} (hm : m < 2 ^ 30) : nI m - nI m / 10 * 10 = nI (m % 10) := pk_rem (a := m) (d := 10) (by omega) (by omega) (by omega)
theorem goN_s (S : St) (nt t : Nat) : goN S nt (t + 1) = goS (goN S nt t) nt t := rfl
theorem takN_s (S : St) (nc nt t : Nat) : takN S nc nt (t + 1) = takeS (takN S nc nt t) nc nt t := rfl
theorem coldS_s (S : St) (c : Nat) : coldS S (c + 1) = cold1 (coldS S c) c := rfl
theorem tm0 {S : St} {sp nc nt ne m t : Nat} (hI : Inv S sp nc nt ne m) (ht : t < nt) (h : S (125 + 8 * t + 2) ≤ 0) : S (125 + 8 * t + 2) = 0 := by
  rcases (hI.2.2.2 t ht).2.2 with ⟨d | d, -⟩ | ⟨d | d, -⟩
  · exact d
  all_goals rw [d] at h; exact absurd h (by decide)
theorem upd_upd {S : St} {i : Nat} {x y : Int32} : upd (upd S i x) i y = upd S i y := by
  funext k
  show (if k = i then y else if k = i then x else S k) = if k = i then y else S k
  by_cases h : k = i
  · rw [if_pos h, if_pos h]
  · rw [if_neg h, if_neg h, if_neg h]
set_option maxRecDepth 100000 in
set_option maxHeartbeats 4000000 in
theorem k_minute {E : EE} {D : Nat} {S : St} {Ps : Nat → St} {A K T N I : St} {hh : Int64} {w : Wo} {sp nc nt ne m : Nat} (hI : Inv S sp nc nt ne m) (hm : m < 2 ^ 30) : Cd E mX4_minute (ml E D S Ps A K T N I hh w) [.ref D] (none) (ml E D (minS S m nc nt) Ps A K T N I hh w) := by
  refine Cd.of RX4 rfl (by decide) [some (.ref D), none, none] (Nat.le_of_ble_eq_true rfl) rfl (fun Γ h f hmn => ?_)
  have hnt := hI.n4
  have hnc := hI.n14
  have k70 : ∀ i1 i2, V E Γ 0 0 70 [some (.ref D), i1, i2] [] (ml E D (minA S m nc) Ps A K T N I hh w) := by
    intro i1 i2
    have IA := inv_minA hI
    have f : Fn E Γ mX4_minute none (ml E D (upd (takN (goN (minA S m nc) nt nt) nc nt nt) 9 (nI (m + 1))) Ps A K T N I hh w) := f
    generalize minA S m nc = Z at f IA ⊢
    refine v_iconst (v := 0) h 70 71 dX4_minute_70 rfl (by decide) ?_
    refine v_istore_n (i := 1) h 71 72 dX4_minute_71 rfl rfl (by decide) (so1 rfl) ?_
    have loop72 : ∀ d j, j + d = nt → V E Γ 0 0 72 [some (.ref D), some (.int (nI j)), none] [] (ml E D (goN Z nt j) Ps A K T N I hh w) := by
      intro d
      induction d with
      | zero =>
        intro j hj
        obtain rfl : nt = j := by omega
        obtain ⟨ne2, hIj⟩ := inv_goN IA nt (Nat.le_refl _)
        refine v_iload_n (i := 1) h 72 73 dX4_minute_72 rfl rfl ld1 ?_
        refine v_aload_n (i := 0) h 73 74 dX4_minute_73 rfl rfl ld0 ?_
        refine v_get h 74 77 dX4_minute_74 rfl fo_X4_7 ml_ob rfl ?_
        refine v_bipush (v := nI 8) h 77 79 dX4_minute_77 rfl (by decide) ?_
        refine v_ildSm h 79 80 _ dX4_minute_79 rfl (by omega) ?_
        refine v_icmp_ge h 80 83 103 dX4_minute_80 rfl (by decide) (fun h80 => ?_) (fun h80 => absurd (by rw [hIj.c8]; exact nI_le (Nat.le_refl _) (by omega)) h80)
        refine v_iconst (v := 0) h 103 104 dX4_minute_103 rfl (by decide) ?_
        refine v_istore_n (i := 1) h 104 105 dX4_minute_104 rfl rfl (by decide) (so1 rfl) ?_
        have loop105 : ∀ d j, j + d = nt → V E Γ 0 0 105 [some (.ref D), some (.int (nI j)), none] [] (ml E D (takN (goN Z nt nt) nc nt j) Ps A K T N I hh w) := by
          intro d
          induction d with
          | zero =>
            intro j hj
            obtain rfl : nt = j := by omega
            have hIj := inv_takN hIj nt (Nat.le_refl _)
            refine v_iload_n (i := 1) h 105 106 dX4_minute_105 rfl rfl ld1 ?_
            refine v_aload_n (i := 0) h 106 107 dX4_minute_106 rfl rfl ld0 ?_
            refine v_get h 107 110 dX4_minute_107 rfl fo_X4_7 ml_ob rfl ?_
            refine v_bipush (v := nI 8) h 110 112 dX4_minute_110 rfl (by decide) ?_
            refine v_ildSm h 112 113 _ dX4_minute_112 rfl (by omega) ?_
            refine v_icmp_ge h 113 116 136 dX4_minute_113 rfl (by decide) (fun h113 => ?_) (fun h113 => absurd (by rw [hIj.c8]; exact nI_le (Nat.le_refl _) (by omega)) h113)
            refine v_aload_n (i := 0) h 136 137 dX4_minute_136 rfl rfl ld0 ?_
            refine v_get h 137 140 dX4_minute_137 rfl fo_X4_7 ml_ob rfl ?_
            refine v_bipush (v := nI 9) h 140 142 dX4_minute_140 rfl (by decide) ?_
            refine v_dup2 h 142 143 dX4_minute_142 rfl rfl rfl ?_
            refine v_ildSm h 143 144 _ dX4_minute_143 rfl (by omega) ?_
            rw [hIj.c9]
            refine v_iconst (v := 1) h 144 145 dX4_minute_144 rfl (by decide) ?_
            refine v_iadd h 145 146 dX4_minute_145 rfl ?_
            rw [nI_1]
            refine v_istSm h 146 147 _ dX4_minute_146 rfl (by omega) ?_
            exact v_ret h 147 f dX4_minute_147 rfl (Nat.zero_le _) (Nat.zero_le _) rfl rfl
          | succ d ih =>
            intro j hj
            have hIj := inv_takN hIj j (by omega)
            refine v_iload_n (i := 1) h 105 106 dX4_minute_105 rfl rfl ld1 ?_
            refine v_aload_n (i := 0) h 106 107 dX4_minute_106 rfl rfl ld0 ?_
            refine v_get h 107 110 dX4_minute_107 rfl fo_X4_7 ml_ob rfl ?_
            refine v_bipush (v := nI 8) h 110 112 dX4_minute_110 rfl (by decide) ?_
            refine v_ildSm h 112 113 _ dX4_minute_112 rfl (by omega) ?_
            refine v_icmp_ge h 113 116 136 dX4_minute_113 rfl (by decide) (fun h113 => absurd h113 (by rw [hIj.c8]; exact nI_ge (by omega) (by omega))) (fun h113 => ?_)
            refine v_aload_n (i := 0) h 116 117 dX4_minute_116 rfl rfl ld0 ?_
            refine v_iload_n (i := 1) h 117 118 dX4_minute_117 rfl rfl ld1 ?_
            refine v_iconst (v := 2) h 118 119 dX4_minute_118 rfl (by decide) ?_
            refine v_callV1 h 119 122 dX4_minute_119 rfl cb_X4_ofTeam cv_X4_ofTeam ml_ob lk_X4_47 (rok (by decide) (by decide)) ⟨rfl, rfl⟩ ⟨Nat.zero_le _, Nat.zero_le _⟩ (k_ofTeam (c := j) (k := 2) (by omega) (by decide)) rfl rfl (Nat.le_of_ble_eq_true rfl) ?_
            refine v_if_ne h 122 125 130 dX4_minute_122 rfl (by decide) (fun h122 => ?_) (fun h122 => ?_)
            · refine v_iinc (i := 1) h 130 133 dX4_minute_130 rfl ld1 (by first | exact iinc1 _ | rfl) (by decide) (so1 rfl) ?_
              refine v_goto h 133 105 dX4_minute_133 (by decide) ?_
              have q := ih (j + 1) (by omega)
              rw [takN_s, takeS, if_neg h122] at q
              exact V.weakT q (And.intro rfl (And.intro rfl trivial))
            · refine v_aload_n (i := 0) h 125 126 dX4_minute_125 rfl rfl ld0 ?_
              refine v_iload_n (i := 1) h 126 127 dX4_minute_126 rfl rfl ld1 ?_
              refine v_callV0 h 127 130 dX4_minute_127 rfl cb_X4_takes cv_X4_takes ml_ob lk_X4_79 (rok (by decide) (by decide)) ⟨rfl, rfl⟩ ⟨Nat.zero_le _, Nat.zero_le _⟩ (k_takes hIj (by omega) h122) rfl rfl (Nat.le_of_ble_eq_true rfl) ?_
              refine v_iinc (i := 1) h 130 133 dX4_minute_130 rfl ld1 (by first | exact iinc1 _ | rfl) (by decide) (so1 rfl) ?_
              refine v_goto h 133 105 dX4_minute_133 (by decide) ?_
              have q := ih (j + 1) (by omega)
              rw [takN_s] at q
              exact V.weakT q (And.intro rfl (And.intro rfl trivial))
        exact V.weakT (loop105 nt 0 (by omega)) (And.intro rfl (And.intro rfl trivial))
      | succ d ih =>
        intro j hj
        obtain ⟨ne2, hIj⟩ := inv_goN IA j (by omega)
        refine v_iload_n (i := 1) h 72 73 dX4_minute_72 rfl rfl ld1 ?_
        refine v_aload_n (i := 0) h 73 74 dX4_minute_73 rfl rfl ld0 ?_
        refine v_get h 74 77 dX4_minute_74 rfl fo_X4_7 ml_ob rfl ?_
        refine v_bipush (v := nI 8) h 77 79 dX4_minute_77 rfl (by decide) ?_
        refine v_ildSm h 79 80 _ dX4_minute_79 rfl (by omega) ?_
        refine v_icmp_ge h 80 83 103 dX4_minute_80 rfl (by decide) (fun h80 => absurd h80 (by rw [hIj.c8]; exact nI_ge (by omega) (by omega))) (fun h80 => ?_)
        refine v_aload_n (i := 0) h 83 84 dX4_minute_83 rfl rfl ld0 ?_
        refine v_iload_n (i := 1) h 84 85 dX4_minute_84 rfl rfl ld1 ?_
        refine v_iconst (v := 2) h 85 86 dX4_minute_85 rfl (by decide) ?_
        refine v_callV1 h 86 89 dX4_minute_86 rfl cb_X4_ofTeam cv_X4_ofTeam ml_ob lk_X4_47 (rok (by decide) (by decide)) ⟨rfl, rfl⟩ ⟨Nat.zero_le _, Nat.zero_le _⟩ (k_ofTeam (c := j) (k := 2) (by omega) (by decide)) rfl rfl (Nat.le_of_ble_eq_true rfl) ?_
        refine v_if_le h 89 92 97 dX4_minute_89 rfl (by decide) (fun h89 => ?_) (fun h89 => ?_)
        · refine v_iinc (i := 1) h 97 100 dX4_minute_97 rfl ld1 (by first | exact iinc1 _ | rfl) (by decide) (so1 rfl) ?_
          refine v_goto h 100 72 dX4_minute_100 (by decide) ?_
          have q := ih (j + 1) (by omega)
          rw [goN_s, goS, if_pos (tm0 hIj (by omega) h89)] at q
          exact V.weakT q (And.intro rfl (And.intro rfl trivial))
        · refine v_aload_n (i := 0) h 92 93 dX4_minute_92 rfl rfl ld0 ?_
          refine v_iload_n (i := 1) h 93 94 dX4_minute_93 rfl rfl ld1 ?_
          refine v_callV0 h 94 97 dX4_minute_94 rfl cb_X4_goesOn cv_X4_goesOn ml_ob lk_X4_76 (rok (by decide) (by decide)) ⟨rfl, rfl⟩ ⟨Nat.zero_le _, Nat.zero_le _⟩ (k_goesOn hIj (by omega) (fun q => h89 (by rw [q]; decide))) rfl rfl (Nat.le_of_ble_eq_true rfl) ?_
          refine v_iinc (i := 1) h 97 100 dX4_minute_97 rfl ld1 (by first | exact iinc1 _ | rfl) (by decide) (so1 rfl) ?_
          refine v_goto h 100 72 dX4_minute_100 (by decide) ?_
          have q := ih (j + 1) (by omega)
          rw [goN_s] at q
          exact V.weakT q (And.intro rfl (And.intro rfl trivial))
    exact V.weakT (loop72 nt 0 (by omega)) (And.intro rfl (And.intro rfl trivial))
  refine v_iconst (v := 0) h 0 1 dX4_minute_0 rfl (by decide) ?_
  refine v_istore_n (i := 1) h 1 2 dX4_minute_1 rfl rfl (by decide) (so1 rfl) ?_
  by_cases e10 : (m + 1) % 10 = 0
  · have loop2 : ∀ d j, j + d = nc → V E Γ 0 0 2 [some (.ref D), some (.int (nI j)), none] [] (ml E D (coldS S j) Ps A K T N I hh w) := by
      intro d
      induction d with
      | zero =>
        intro j hj
        obtain rfl : nc = j := by omega
        have hIj := inv_coldS hI nc (Nat.le_refl _)
        refine v_iload_n (i := 1) h 2 3 dX4_minute_2 rfl rfl ld1 ?_
        refine v_aload_n (i := 0) h 3 4 dX4_minute_3 rfl rfl ld0 ?_
        refine v_get h 4 7 dX4_minute_4 rfl fo_X4_7 ml_ob rfl ?_
        refine v_bipush (v := nI 7) h 7 9 dX4_minute_7 rfl (by decide) ?_
        refine v_ildSm h 9 10 _ dX4_minute_9 rfl (by omega) ?_
        refine v_icmp_ge h 10 13 70 dX4_minute_10 rfl (by decide) (fun h10 => ?_) (fun h10 => absurd (by rw [hIj.c7]; exact nI_le (Nat.le_refl _) (by omega)) h10)
        have q := k70 (some (.int (nI nc))) none
        rw [minA, if_pos e10] at q
        exact V.weakT q (And.intro rfl (And.intro rfl trivial))
      | succ d ih =>
        intro j hj
        have hIj := inv_coldS hI j (by omega)
        refine v_iload_n (i := 1) h 2 3 dX4_minute_2 rfl rfl ld1 ?_
        refine v_aload_n (i := 0) h 3 4 dX4_minute_3 rfl rfl ld0 ?_
        refine v_get h 4 7 dX4_minute_4 rfl fo_X4_7 ml_ob rfl ?_
        refine v_bipush (v := nI 7) h 7 9 dX4_minute_7 rfl (by decide) ?_
        refine v_ildSm h 9 10 _ dX4_minute_9 rfl (by omega) ?_
        refine v_icmp_ge h 10 13 70 dX4_minute_10 rfl (by decide) (fun h10 => absurd h10 (by rw [hIj.c7]; exact nI_ge (by omega) (by omega))) (fun h10 => ?_)
        refine v_aload_n (i := 0) h 13 14 dX4_minute_13 rfl rfl ld0 ?_
        refine v_get h 14 17 dX4_minute_14 rfl fo_X4_7 ml_ob rfl ?_
        refine v_bipush (v := nI 9) h 17 19 dX4_minute_17 rfl (by decide) ?_
        refine v_ildSm h 19 20 _ dX4_minute_19 rfl (by omega) ?_
        rw [hIj.c9]
        refine v_bipush (v := 10) h 20 22 dX4_minute_20 rfl (by decide) ?_
        refine v_irem h 22 23 dX4_minute_22 rfl (by decide) ?_
        rw [rem10' hm]
        refine v_bipush (v := 9) h 23 25 dX4_minute_23 rfl (by decide) ?_
        refine v_icmp_ne h 25 28 70 dX4_minute_25 rfl (by decide) (fun h25 => absurd (show nI (m % 10) = 9 by rw [show m % 10 = 9 by omega]; rfl) h25) (fun h25 => ?_)
        refine v_aload_n (i := 0) h 28 29 dX4_minute_28 rfl rfl ld0 ?_
        refine v_iload_n (i := 1) h 29 30 dX4_minute_29 rfl rfl ld1 ?_
        refine v_iconst (v := 2) h 30 31 dX4_minute_30 rfl (by decide) ?_
        refine v_callV1 h 31 34 dX4_minute_31 rfl cb_X4_of cv_X4_of ml_ob lk_X4_43 (rok (by decide) (by decide)) ⟨rfl, rfl⟩ ⟨Nat.zero_le _, Nat.zero_le _⟩ (k_of (c := j) (k := 2) (by omega) (by decide)) rfl rfl (Nat.le_of_ble_eq_true rfl) ?_
        refine v_istore_n (i := 2) h 34 35 dX4_minute_34 rfl rfl (by decide) (so2 rfl) ?_
        refine v_aload_n (i := 0) h 35 36 dX4_minute_35 rfl rfl ld0 ?_
        refine v_iload_n (i := 1) h 36 37 dX4_minute_36 rfl rfl ld1 ?_
        refine v_iconst (v := 2) h 37 38 dX4_minute_37 rfl (by decide) ?_
        refine v_aload_n (i := 0) h 38 39 dX4_minute_38 rfl rfl ld0 ?_
        refine v_iload_n (i := 1) h 39 40 dX4_minute_39 rfl rfl ld1 ?_
        refine v_iconst (v := 4) h 40 41 dX4_minute_40 rfl (by decide) ?_
        refine v_callV1 h 41 44 dX4_minute_41 rfl cb_X4_of cv_X4_of ml_ob lk_X4_43 (rok (by decide) (by decide)) ⟨rfl, rfl⟩ ⟨Nat.zero_le _, Nat.zero_le _⟩ (k_of (c := j) (k := 4) (by omega) (by decide)) rfl rfl (Nat.le_of_ble_eq_true rfl) ?_
        refine v_iconst (v := 2) h 44 45 dX4_minute_44 rfl (by decide) ?_
        refine v_icmp_ge h 45 48 60 dX4_minute_45 rfl (by decide) (fun h45 => ?_) (fun h45 => ?_)
        · refine v_iload_n (i := 2) h 60 61 dX4_minute_60 rfl rfl ld2 ?_
          refine v_callV0 h 61 64 dX4_minute_61 rfl cb_X4_puts cv_X4_puts ml_ob lk_X4_60 (rok (by decide) (by decide)) ⟨rfl, rfl⟩ ⟨Nat.zero_le _, Nat.zero_le _⟩ (k_puts (c := j) (k := 2) (by omega) (by decide) _) rfl rfl (Nat.le_of_ble_eq_true rfl) ?_
          refine v_iinc (i := 1) h 64 67 dX4_minute_64 rfl ld1 (by first | exact iinc1 _ | rfl) (by decide) (so1 rfl) ?_
          refine v_goto h 67 2 dX4_minute_67 (by decide) ?_
          have q := ih (j + 1) (by omega)
          rw [coldS_s, ← cold1_is hIj (by omega), if_pos h45] at q
          exact V.weakT q (And.intro rfl (And.intro rfl trivial))
        · refine v_iload_n (i := 2) h 48 49 dX4_minute_48 rfl rfl ld2 ?_
          refine v_bipush (v := 20) h 49 51 dX4_minute_49 rfl (by decide) ?_
          refine v_icmp_ge h 51 54 60 dX4_minute_51 rfl (by decide) (fun h51 => ?_) (fun h51 => ?_)
          · refine v_iload_n (i := 2) h 60 61 dX4_minute_60 rfl rfl ld2 ?_
            refine v_callV0 h 61 64 dX4_minute_61 rfl cb_X4_puts cv_X4_puts ml_ob lk_X4_60 (rok (by decide) (by decide)) ⟨rfl, rfl⟩ ⟨Nat.zero_le _, Nat.zero_le _⟩ (k_puts (c := j) (k := 2) (by omega) (by decide) _) rfl rfl (Nat.le_of_ble_eq_true rfl) ?_
            refine v_iinc (i := 1) h 64 67 dX4_minute_64 rfl ld1 (by first | exact iinc1 _ | rfl) (by decide) (so1 rfl) ?_
            refine v_goto h 67 2 dX4_minute_67 (by decide) ?_
            have q := ih (j + 1) (by omega)
            rw [coldS_s, ← cold1_is hIj (by omega), if_neg h45, if_pos h51] at q
            exact V.weakT q (And.intro rfl (And.intro rfl trivial))
          · refine v_iload_n (i := 2) h 54 55 dX4_minute_54 rfl rfl ld2 ?_
            refine v_iconst (v := 1) h 55 56 dX4_minute_55 rfl (by decide) ?_
            refine v_iadd h 56 57 dX4_minute_56 rfl ?_
            refine v_goto h 57 61 dX4_minute_57 (by decide) ?_
            refine v_callV0 h 61 64 dX4_minute_61 rfl cb_X4_puts cv_X4_puts ml_ob lk_X4_60 (rok (by decide) (by decide)) ⟨rfl, rfl⟩ ⟨Nat.zero_le _, Nat.zero_le _⟩ (k_puts (c := j) (k := 2) (by omega) (by decide) _) rfl rfl (Nat.le_of_ble_eq_true rfl) ?_
            refine v_iinc (i := 1) h 64 67 dX4_minute_64 rfl ld1 (by first | exact iinc1 _ | rfl) (by decide) (so1 rfl) ?_
            refine v_goto h 67 2 dX4_minute_67 (by decide) ?_
            have q := ih (j + 1) (by omega)
            rw [coldS_s, ← cold1_is hIj (by omega), if_neg h45, if_neg h51] at q
            exact V.weakT q (And.intro rfl (And.intro rfl trivial))
    exact V.weakT (loop2 nc 0 (by omega)) (And.intro rfl (And.intro rfl trivial))
  · refine v_iload_n (i := 1) h 2 3 dX4_minute_2 rfl rfl ld1 ?_
    refine v_aload_n (i := 0) h 3 4 dX4_minute_3 rfl rfl ld0 ?_
    refine v_get h 4 7 dX4_minute_4 rfl fo_X4_7 ml_ob rfl ?_
    refine v_bipush (v := nI 7) h 7 9 dX4_minute_7 rfl (by decide) ?_
    refine v_ildSm h 9 10 _ dX4_minute_9 rfl (by omega) ?_
    refine v_icmp_ge h 10 13 70 dX4_minute_10 rfl (by decide) (fun h10 => ?_) (fun h10 => ?_)
    · have q := k70 (some (.int 0)) none
      rw [minA, if_neg e10] at q
      exact V.weakT q (And.intro rfl (And.intro rfl trivial))
    · refine v_aload_n (i := 0) h 13 14 dX4_minute_13 rfl rfl ld0 ?_
      refine v_get h 14 17 dX4_minute_14 rfl fo_X4_7 ml_ob rfl ?_
      refine v_bipush (v := nI 9) h 17 19 dX4_minute_17 rfl (by decide) ?_
      refine v_ildSm h 19 20 _ dX4_minute_19 rfl (by omega) ?_
      rw [hI.c9]
      refine v_bipush (v := 10) h 20 22 dX4_minute_20 rfl (by decide) ?_
      refine v_irem h 22 23 dX4_minute_22 rfl (by decide) ?_
      rw [rem10' hm]
      refine v_bipush (v := 9) h 23 25 dX4_minute_23 rfl (by decide) ?_
      refine v_icmp_ne h 25 28 70 dX4_minute_25 rfl (by decide) (fun h25 => ?_) (fun h25 => absurd (nI_inj (b := 9) (by omega) (by decide) h25) (by omega))
      have q := k70 (some (.int 0)) none
      rw [minA, if_neg e10] at q
      exact V.weakT q (And.intro rfl (And.intro rfl trivial))

set_option maxRecDepth 100000 in
set_option maxHeartbeats 4000000 in
theorem k_foresees {E : EE} {D : Nat} {S : St} {Ps : Nat → St} {A K T N I : St} {hh : Int64} {w : Wo} {sp nc nt ne m : Nat} (hI : Inv S sp nc nt ne m) (hm : m < 2 ^ 30 - 5000) : Cd E mX4_foresees (ml E D S Ps A K T N I hh w) [.ref D] (none) (ml E D S Ps A S T (cpA N (fun c => (runS nc nt 1000 S m).1 (13 + 8 * c + 6)) nc) (upd I 3 (outI (runS nc nt 1000 S m))) hh w) := by
  refine Cd.of RX4 rfl (by decide) [some (.ref D), none] (Nat.le_of_ble_eq_true rfl) rfl (fun Γ h f hmn => ?_)
  have hnt := hI.n4
  have hnc := hI.n14
  have k60 : ∀ ne' m', Inv (runS nc nt 1000 S m).1 sp nc nt ne' m' → V E Γ 0 0 60 [some (.ref D), none] [] (ml E D ((runS nc nt 1000 S m).1) Ps A S T N (upd I 3 (nI (runS nc nt 1000 S m).2)) hh w) := by
    intro ne' m' hF
    generalize runS nc nt 1000 S m = R at f hF ⊢
    have k89 : V E Γ 0 0 89 [some (.ref D), none] [] (ml E D (R.1) Ps A S T N (upd I 3 (outI R)) hh w) := by
      refine v_iconst (v := 0) h 89 90 dX4_foresees_89 rfl (by decide) ?_
      refine v_istore_n (i := 1) h 90 91 dX4_foresees_90 rfl rfl (by decide) (so1 rfl) ?_
      have loop91 : ∀ d j, j + d = nc → V E Γ 0 0 91 [some (.ref D), some (.int (nI j))] [] (ml E D (R.1) Ps A S T (cpA N (fun c => R.1 (13 + 8 * c + 6)) j) (upd I 3 (outI R)) hh w) := by
        intro d
        induction d with
        | zero =>
          intro j hj
          obtain rfl : nc = j := by omega
          refine v_iload_n (i := 1) h 91 92 dX4_foresees_91 rfl rfl ld1 ?_
          refine v_aload_n (i := 0) h 92 93 dX4_foresees_92 rfl rfl ld0 ?_
          refine v_get h 93 96 dX4_foresees_93 rfl fo_X4_7 ml_ob rfl ?_
          refine v_bipush (v := nI 7) h 96 98 dX4_foresees_96 rfl (by decide) ?_
          refine v_ildSm h 98 99 _ dX4_foresees_98 rfl (by omega) ?_
          refine v_icmp_ge h 99 102 121 dX4_foresees_99 rfl (by decide) (fun h99 => ?_) (fun h99 => absurd (by rw [hF.c7]; exact nI_le (Nat.le_refl _) (by omega)) h99)
          refine v_aload_n (i := 0) h 121 122 dX4_foresees_121 rfl rfl ld0 ?_
          refine v_get h 122 125 dX4_foresees_122 rfl fo_X4_7 ml_ob rfl ?_
          refine v_aload_n (i := 0) h 125 126 dX4_foresees_125 rfl rfl ld0 ?_
          refine v_get h 126 129 dX4_foresees_126 rfl fo_X4_19 ml_ob rfl ?_
          refine v_callS0 h 129 132 dX4_foresees_129 rfl cb_X4_copies cs_X4_copies lk_X4_32 (rok (by decide) (by decide)) ⟨rfl, rfl⟩ ⟨Nat.zero_le _, Nat.zero_le _⟩ k_cSK rfl rfl (Nat.le_of_ble_eq_true rfl) ?_
          exact v_ret h 132 f dX4_foresees_132 rfl (Nat.zero_le _) (Nat.zero_le _) rfl rfl
        | succ d ih =>
          intro j hj
          refine v_iload_n (i := 1) h 91 92 dX4_foresees_91 rfl rfl ld1 ?_
          refine v_aload_n (i := 0) h 92 93 dX4_foresees_92 rfl rfl ld0 ?_
          refine v_get h 93 96 dX4_foresees_93 rfl fo_X4_7 ml_ob rfl ?_
          refine v_bipush (v := nI 7) h 96 98 dX4_foresees_96 rfl (by decide) ?_
          refine v_ildSm h 98 99 _ dX4_foresees_98 rfl (by omega) ?_
          refine v_icmp_ge h 99 102 121 dX4_foresees_99 rfl (by decide) (fun h99 => absurd h99 (by rw [hF.c7]; exact nI_ge (by omega) (by omega))) (fun h99 => ?_)
          refine v_aload_n (i := 0) h 102 103 dX4_foresees_102 rfl rfl ld0 ?_
          refine v_get h 103 106 dX4_foresees_103 rfl fo_X4_25 ml_ob rfl ?_
          refine v_iload_n (i := 1) h 106 107 dX4_foresees_106 rfl rfl ld1 ?_
          refine v_aload_n (i := 0) h 107 108 dX4_foresees_107 rfl rfl ld0 ?_
          refine v_iload_n (i := 1) h 108 109 dX4_foresees_108 rfl rfl ld1 ?_
          refine v_bipush (v := 6) h 109 111 dX4_foresees_109 rfl (by decide) ?_
          refine v_callV1 h 111 114 dX4_foresees_111 rfl cb_X4_of cv_X4_of ml_ob lk_X4_43 (rok (by decide) (by decide)) ⟨rfl, rfl⟩ ⟨Nat.zero_le _, Nat.zero_le _⟩ (k_of (c := j) (k := 6) (by omega) (by decide)) rfl rfl (Nat.le_of_ble_eq_true rfl) ?_
          refine v_istNm h 114 115 _ dX4_foresees_114 rfl (by omega) ?_
          rw [show upd (cpA N (fun c => R.1 (13 + 8 * c + 6)) j) j (R.1 (13 + 8 * j + 6)) = cpA N (fun c => R.1 (13 + 8 * c + 6)) (j + 1) from cpA_s]
          refine v_iinc (i := 1) h 115 118 dX4_foresees_115 rfl ld1 (by first | exact iinc1 _ | rfl) (by decide) (so1 rfl) ?_
          refine v_goto h 118 91 dX4_foresees_118 (by decide) ?_
          exact V.weakT (ih (j + 1) (by omega)) (And.intro rfl (And.intro rfl trivial))
      exact V.weakT (loop91 nc 0 (by omega)) (And.intro rfl (And.intro rfl trivial))
    refine v_aload_n (i := 0) h 60 61 dX4_foresees_60 rfl rfl ld0 ?_
    refine v_aload_n (i := 0) h 61 62 dX4_foresees_61 rfl rfl ld0 ?_
    refine v_get h 62 65 dX4_foresees_62 rfl fo_X4_7 ml_ob rfl ?_
    refine v_bipush (v := nI 12) h 65 67 dX4_foresees_65 rfl (by decide) ?_
    refine v_ildSm h 67 68 _ dX4_foresees_67 rfl (by omega) ?_
    refine v_aload_n (i := 0) h 68 69 dX4_foresees_68 rfl rfl ld0 ?_
    refine v_get h 69 72 dX4_foresees_69 rfl fo_X4_7 ml_ob rfl ?_
    refine v_bipush (v := nI 7) h 72 74 dX4_foresees_72 rfl (by decide) ?_
    refine v_ildSm h 74 75 _ dX4_foresees_74 rfl (by omega) ?_
    refine v_icmp_ge h 75 78 82 dX4_foresees_75 rfl (by decide) (fun h75 => ?_) (fun h75 => ?_)
    · refine v_aload_n (i := 0) h 82 83 dX4_foresees_82 rfl rfl ld0 ?_
      refine v_get h 83 86 dX4_foresees_83 rfl fo_X4_82 ml_ob rfl ?_
      refine v_putM9 h 86 89 dX4_foresees_86 rfl fw_X4_82 ?_
      refine V.world (w' := ml E D (R.1) Ps A S T N (upd I 3 (outI R)) hh w) (by rw [upd_upd, upd_self, outI, if_pos h75]) ?_
      exact k89
    · refine v_iconst (v := (-1)) h 78 79 dX4_foresees_78 rfl (by decide) ?_
      refine v_goto h 79 86 dX4_foresees_79 (by decide) ?_
      refine v_putM9 h 86 89 dX4_foresees_86 rfl fw_X4_82 ?_
      refine V.world (w' := ml E D (R.1) Ps A S T N (upd I 3 (outI R)) hh w) (by rw [upd_upd, outI, if_neg h75]) ?_
      exact k89
  refine v_aload_n (i := 0) h 0 1 dX4_foresees_0 rfl rfl ld0 ?_
  refine v_get h 1 4 dX4_foresees_1 rfl fo_X4_19 ml_ob rfl ?_
  refine v_aload_n (i := 0) h 4 5 dX4_foresees_4 rfl rfl ld0 ?_
  refine v_get h 5 8 dX4_foresees_5 rfl fo_X4_7 ml_ob rfl ?_
  refine v_callS0 h 8 11 dX4_foresees_8 rfl cb_X4_copies cs_X4_copies lk_X4_32 (rok (by decide) (by decide)) ⟨rfl, rfl⟩ ⟨Nat.zero_le _, Nat.zero_le _⟩ k_cKS rfl rfl (Nat.le_of_ble_eq_true rfl) ?_
  refine v_aload_n (i := 0) h 11 12 dX4_foresees_11 rfl rfl ld0 ?_
  refine v_iconst (v := 0) h 12 13 dX4_foresees_12 rfl (by decide) ?_
  refine v_putM9 h 13 16 dX4_foresees_13 rfl fw_X4_82 ?_
  obtain ⟨R0, hR0⟩ : ∃ z, z = runS nc nt 1000 S m := ⟨_, rfl⟩
  rw [← hR0] at k60
  have loop : ∀ (d : Nat) (T_ : St) (ne' m' j : Nat), j + d = 1000 → m' < 2 ^ 30 - 5000 + j → Inv T_ sp nc nt ne' m' → (runS nc nt d T_ m').1 = R0.1 → j + (runS nc nt d T_ m').2 = R0.2 → V E Γ 0 0 16 [some (.ref D), none] [] (ml E D T_ Ps A S T N (upd I 3 (nI j)) hh w) := by
    intro d
    induction d with
    | zero =>
      intro T_ ne' m' j hj hm' hT r1 r2
      rw [show (runS nc nt 0 T_ m').1 = T_ from rfl] at r1
      rw [show (runS nc nt 0 T_ m').2 = 0 from rfl] at r2
      refine v_aload_n (i := 0) h 16 17 dX4_foresees_16 rfl rfl ld0 ?_
      refine v_get h 17 20 dX4_foresees_17 rfl fo_X4_82 ml_ob rfl ?_
      rw [upd_self]
      refine v_sipush (v := 1000) h 20 23 dX4_foresees_20 rfl (by decide) ?_
      refine v_icmp_ge h 23 26 60 dX4_foresees_23 rfl (by decide) (fun h23 => ?_) (fun h23 => absurd (by rw [show j = 1000 by omega]; decide) h23)
      have q := k60 ne' m' (by rw [← r1]; exact hT)
      rw [← r1, ← r2] at q
      exact q
    | succ d ih =>
      intro T_ ne' m' j hj hm' hT r1 r2
      unfold runS at r1 r2
      refine v_aload_n (i := 0) h 16 17 dX4_foresees_16 rfl rfl ld0 ?_
      refine v_get h 17 20 dX4_foresees_17 rfl fo_X4_82 ml_ob rfl ?_
      rw [upd_self]
      refine v_sipush (v := 1000) h 20 23 dX4_foresees_20 rfl (by decide) ?_
      refine v_icmp_ge h 23 26 60 dX4_foresees_23 rfl (by decide) (fun h23 => absurd h23 (nI_ge (a := j) (b := 1000) (by omega) (by decide))) (fun h23 => ?_)
      refine v_aload_n (i := 0) h 26 27 dX4_foresees_26 rfl rfl ld0 ?_
      refine v_get h 27 30 dX4_foresees_27 rfl fo_X4_7 ml_ob rfl ?_
      refine v_bipush (v := nI 12) h 30 32 dX4_foresees_30 rfl (by decide) ?_
      refine v_ildSm h 32 33 _ dX4_foresees_32 rfl (by omega) ?_
      refine v_aload_n (i := 0) h 33 34 dX4_foresees_33 rfl rfl ld0 ?_
      refine v_get h 34 37 dX4_foresees_34 rfl fo_X4_7 ml_ob rfl ?_
      refine v_bipush (v := nI 7) h 37 39 dX4_foresees_37 rfl (by decide) ?_
      refine v_ildSm h 39 40 _ dX4_foresees_39 rfl (by omega) ?_
      refine v_icmp_ge h 40 43 60 dX4_foresees_40 rfl (by decide) (fun h40 => ?_) (fun h40 => ?_)
      · rw [if_pos h40] at r1 r2
        have q := k60 ne' m' (by rw [← r1]; exact hT)
        rw [← r1, ← r2] at q
        exact q
      · refine v_aload_n (i := 0) h 43 44 dX4_foresees_43 rfl rfl ld0 ?_
        refine v_callV0 h 44 47 dX4_foresees_44 rfl cb_X4_minute cv_X4_minute ml_ob lk_X4_85 (rok (by decide) (by decide)) ⟨rfl, rfl⟩ ⟨Nat.zero_le _, Nat.zero_le _⟩ (k_minute hT (by omega)) rfl rfl (Nat.le_of_ble_eq_true rfl) ?_
        refine v_aload_n (i := 0) h 47 48 dX4_foresees_47 rfl rfl ld0 ?_
        refine v_dup h 48 49 dX4_foresees_48 rfl rfl ?_
        refine v_get h 49 52 dX4_foresees_49 rfl fo_X4_82 ml_ob rfl ?_
        rw [upd_self]
        refine v_iconst (v := 1) h 52 53 dX4_foresees_52 rfl (by decide) ?_
        refine v_iadd h 53 54 dX4_foresees_53 rfl ?_
        rw [nI_1]
        refine v_putM9 h 54 57 dX4_foresees_54 rfl fw_X4_82 ?_
        rw [upd_upd]
        refine v_goto h 57 16 dX4_foresees_57 (by decide) ?_
        rw [if_neg h40] at r1 r2
        obtain ⟨ne2, hT2⟩ := inv_min hT
        exact ih _ ne2 (m' + 1) (j + 1) (by omega) (by omega) hT2 r1 (by omega)
  exact loop 1000 S ne m 0 (by omega) (by omega) hI (by rw [hR0]) (by rw [hR0]; omega)

