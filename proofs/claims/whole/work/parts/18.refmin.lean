/-! THE REFERENCE'S MINUTE -/
theorem upd_same {S : St} {i : Nat} : upd S i (S i) = S := by
  funext k
  show (if k = i then S i else S k) = S k
  by_cases h : k = i
  · rw [if_pos h, h]
  · rw [if_neg h]
theorem upd_is {S : St} {i : Nat} {x : Int32} (h : S i = x) : upd S i x = S := by rw [← h, upd_same]
theorem upd_comm {S : St} {i j : Nat} {x y : Int32} (h : i ≠ j) : upd (upd S i x) j y = upd (upd S j y) i x := by
  funext k
  show (if k = j then y else if k = i then x else S k) = if k = i then x else if k = j then y else S k
  by_cases h1 : k = i
  · rw [if_pos h1, if_neg (by omega), if_pos h1]
  · rw [if_neg h1, if_neg h1]
def hI_ (S : St) (c : Nat) (tn : Int32) (n : Nat) : Int32 := if hlpN S c tn n = true then 1 else 0
theorem hI_s {S : St} {c : Nat} {tn : Int32} {n : Nat} : hI_ S c tn (n + 1) = if hI_ S c tn n = 0 then (if nI n = tn then 0 else if S (125 + 8 * n + 2) = 2 then (if S (125 + 8 * n + 0) = S (13 + 8 * c + 0) then 1 else 0) else 0) else 1 := by
  unfold hI_
  cases h : hlpN S c tn n with
  | true => rw [hlpN, h, Bool.true_or, if_pos rfl, if_neg (show ¬ (1 : Int32) = 0 by decide)]
  | false =>
    rw [hlpN, h, Bool.false_or, if_neg (show ¬ false = true by decide), if_pos rfl]
    unfold hlpB
    by_cases h1 : nI n = tn
    · rw [if_pos h1, if_neg (by rw [decide_eq_true_eq]; exact fun q => q.1 h1)]
    · rw [if_neg h1]
      by_cases h2 : S (125 + 8 * n + 2) = 2
      · rw [if_pos h2]
        by_cases h3 : S (125 + 8 * n + 0) = S (13 + 8 * c + 0)
        · rw [if_pos h3, if_pos (by rw [decide_eq_true_eq]; exact ⟨h1, h2, h3⟩)]
        · rw [if_neg h3, if_neg (by rw [decide_eq_true_eq]; exact fun q => h3 q.2.2)]
      · rw [if_neg h2, if_neg (by rw [decide_eq_true_eq]; exact fun q => h2 q.2.1)]
theorem wk_lt : ∀ r, 1 ≤ r → r < 5 → ∀ k, k < 31 → (1 : Int32) < 2 + nI r * (1 + nI k / 5) := by
  have h : ∀ r, r < 5 → 1 ≤ r → ∀ k, k < 31 → (1 : Int32) < 2 + nI r * (1 + nI k / 5) := by decide +kernel
  exact fun r a b => h r b a
theorem wk_1 : ∀ r, r < 5 → 1 ≤ r → ∀ k, k < 31 → (if 1 < 2 + nI r * (1 + nI k / 5) - 1 then 2 + nI r * (1 + nI k / 5) - 1 else 1) = 2 + nI r * (1 + nI k / 5) - 1 := by decide +kernel

set_option maxRecDepth 100000 in
set_option maxHeartbeats 4000000 in
theorem k_workM {E : EE} {D : Nat} {S : St} {Ps : Nat → St} {A K T N I : St} {hh : Int64} {w : Wo} {c t nt : Nat} (hnt : nt ≤ 4) (hc : c < 14) (ht : t < nt) (e8 : S 8 = nI nt) (hr : ∃ r, 1 ≤ r ∧ r ≤ 4 ∧ S (13 + 8 * c + 1) = nI r) (hk : ∃ k, k ≤ 30 ∧ S (125 + 8 * t + 1) = nI k) : Cd E mX4_workOf (ml E D S Ps A K T N I hh w) [.ref D, .int (nI c), .int (nI t)] (some (.int (wkS S nt c (nI t) (S (125 + 8 * t + 1))))) (ml E D S Ps A K T N I hh w) := by
  refine Cd.of RX4 rfl (by decide) [some (.ref D), some (.int (nI c)), some (.int (nI t)), none, none, none] (Nat.le_of_ble_eq_true rfl) rfl (fun Γ h f hmn => ?_)
  obtain ⟨r, hr1, hr2, er⟩ := hr
  obtain ⟨q, hq, eq⟩ := hk
  have hlt : ¬ wkM S c (S (125 + 8 * t + 1)) ≤ 1 := lt_nle (by unfold wkM; rw [er, eq]; exact wk_lt r hr1 (by omega) q (by omega))
  have hwk : wkS S nt c (nI t) (S (125 + 8 * t + 1)) = if hI_ S c (nI t) nt = 0 then wkM S c (S (125 + 8 * t + 1)) else wkM S c (S (125 + 8 * t + 1)) - 1 := by
    unfold wkS hI_
    cases hlpN S c (nI t) nt with
    | true => rw [if_pos rfl, if_pos rfl, if_neg (show ¬ (1 : Int32) = 0 by decide), wkM, er, eq, wk_1 r (by omega) hr1 q (by omega)]
    | false => rw [if_neg (show ¬ false = true by decide), if_neg (show ¬ false = true by decide), if_pos rfl]
  rw [hwk] at f
  refine v_iconst (v := 2) h 0 1 dX4_workOf_0 rfl (by decide) ?_
  refine v_aload_n (i := 0) h 1 2 dX4_workOf_1 rfl rfl ld0 ?_
  refine v_iload_n (i := 1) h 2 3 dX4_workOf_2 rfl rfl ld1 ?_
  refine v_iconst (v := 1) h 3 4 dX4_workOf_3 rfl (by decide) ?_
  refine v_callV1 h 4 7 dX4_workOf_4 rfl cb_X4_of cv_X4_of ml_ob lk_X4_43 (rok (by decide) (by decide)) ⟨rfl, rfl⟩ ⟨Nat.zero_le _, Nat.zero_le _⟩ (k_of (c := c) (k := 1) (by omega) (by decide)) rfl rfl (Nat.le_of_ble_eq_true rfl) ?_
  refine v_iconst (v := 1) h 7 8 dX4_workOf_7 rfl (by decide) ?_
  refine v_aload_n (i := 0) h 8 9 dX4_workOf_8 rfl rfl ld0 ?_
  refine v_iload_n (i := 2) h 9 10 dX4_workOf_9 rfl rfl ld2 ?_
  refine v_iconst (v := 1) h 10 11 dX4_workOf_10 rfl (by decide) ?_
  refine v_callV1 h 11 14 dX4_workOf_11 rfl cb_X4_ofTeam cv_X4_ofTeam ml_ob lk_X4_47 (rok (by decide) (by decide)) ⟨rfl, rfl⟩ ⟨Nat.zero_le _, Nat.zero_le _⟩ (k_ofTeam (c := t) (k := 1) (by omega) (by decide)) rfl rfl (Nat.le_of_ble_eq_true rfl) ?_
  refine v_iconst (v := 5) h 14 15 dX4_workOf_14 rfl (by decide) ?_
  refine v_idiv h 15 16 dX4_workOf_15 rfl (by decide) ?_
  refine v_iadd h 16 17 dX4_workOf_16 rfl ?_
  refine v_imul h 17 18 dX4_workOf_17 rfl ?_
  refine v_iadd h 18 19 dX4_workOf_18 rfl ?_
  refine v_istore_n (i := 3) h 19 20 dX4_workOf_19 rfl rfl (by decide) (so3 rfl) ?_
  refine v_iconst (v := 0) h 20 21 dX4_workOf_20 rfl (by decide) ?_
  refine v_istore (i := 4) h 21 23 dX4_workOf_21 rfl (by decide) (so4 rfl) ?_
  refine v_iconst (v := 0) h 23 24 dX4_workOf_23 rfl (by decide) ?_
  refine v_istore (i := 5) h 24 26 dX4_workOf_24 rfl (by decide) (so5 rfl) ?_
  have loop26 : ∀ d j, j + d = nt → V E Γ 0 0 26 [some (.ref D), some (.int (nI c)), some (.int (nI t)), some (.int (wkM S c (S (125 + 8 * t + 1)))), some (.int (hI_ S c (nI t) j)), some (.int (nI j))] [] (ml E D S Ps A K T N I hh w) := by
    intro d
    induction d with
    | zero =>
      intro j hj
      obtain rfl : nt = j := by omega
      refine v_iload (i := 5) h 26 28 dX4_workOf_26 rfl ld5 ?_
      refine v_aload_n (i := 0) h 28 29 dX4_workOf_28 rfl rfl ld0 ?_
      refine v_get h 29 32 dX4_workOf_29 rfl fo_X4_7 ml_ob rfl ?_
      refine v_bipush (v := nI 8) h 32 34 dX4_workOf_32 rfl (by decide) ?_
      refine v_ildSm h 34 35 _ dX4_workOf_34 rfl (by omega) ?_
      refine v_icmp_ge h 35 38 89 dX4_workOf_35 rfl (by decide) (fun h35 => ?_) (fun h35 => absurd (by rw [e8]; exact nI_le (Nat.le_refl _) (by omega)) h35)
      refine v_iload (i := 4) h 89 91 dX4_workOf_89 rfl ld4 ?_
      refine v_if_eq h 91 94 105 dX4_workOf_91 rfl (by decide) (fun h91 => ?_) (fun h91 => ?_)
      · refine v_iload_n (i := 3) h 105 106 dX4_workOf_105 rfl rfl ld3 ?_
        refine v_iret h 106 f dX4_workOf_106 rfl (Nat.zero_le _) (Nat.zero_le _) ?_ ?_
        · rw [if_pos h91]
        · rfl
      · refine v_iload_n (i := 3) h 94 95 dX4_workOf_94 rfl rfl ld3 ?_
        refine v_iconst (v := 1) h 95 96 dX4_workOf_95 rfl (by decide) ?_
        refine v_icmp_le h 96 99 105 dX4_workOf_96 rfl (by decide) (fun h96 => absurd h96 hlt) (fun h96 => ?_)
        refine v_iload_n (i := 3) h 99 100 dX4_workOf_99 rfl rfl ld3 ?_
        refine v_iconst (v := 1) h 100 101 dX4_workOf_100 rfl (by decide) ?_
        refine v_isub h 101 102 dX4_workOf_101 rfl ?_
        refine v_goto h 102 106 dX4_workOf_102 (by decide) ?_
        refine v_iret h 106 f dX4_workOf_106 rfl (Nat.zero_le _) (Nat.zero_le _) ?_ ?_
        · rw [if_neg h91]
        · rfl
    | succ d ih =>
      intro j hj
      refine v_iload (i := 5) h 26 28 dX4_workOf_26 rfl ld5 ?_
      refine v_aload_n (i := 0) h 28 29 dX4_workOf_28 rfl rfl ld0 ?_
      refine v_get h 29 32 dX4_workOf_29 rfl fo_X4_7 ml_ob rfl ?_
      refine v_bipush (v := nI 8) h 32 34 dX4_workOf_32 rfl (by decide) ?_
      refine v_ildSm h 34 35 _ dX4_workOf_34 rfl (by omega) ?_
      refine v_icmp_ge h 35 38 89 dX4_workOf_35 rfl (by decide) (fun h35 => absurd h35 (by rw [e8]; exact nI_ge (by omega) (by omega))) (fun h35 => ?_)
      refine v_iload (i := 4) h 38 40 dX4_workOf_38 rfl ld4 ?_
      refine v_if_ne h 40 43 76 dX4_workOf_40 rfl (by decide) (fun h40 => ?_) (fun h40 => ?_)
      · refine v_iconst (v := 1) h 76 77 dX4_workOf_76 rfl (by decide) ?_
        refine v_goto h 77 81 dX4_workOf_77 (by decide) ?_
        refine v_istore (i := 4) h 81 83 dX4_workOf_81 rfl (by decide) (so4 rfl) ?_
        refine v_iinc (i := 5) h 83 86 dX4_workOf_83 rfl ld5 (by first | exact iinc1 _ | rfl) (by decide) (so5 rfl) ?_
        refine v_goto h 86 26 dX4_workOf_86 (by decide) ?_
        have q := ih (j + 1) (by omega)
        rw [hI_s, if_neg h40] at q
        exact V.weakT q (And.intro rfl (And.intro rfl (And.intro rfl (And.intro rfl (And.intro rfl (And.intro rfl trivial))))))
      · refine v_iload (i := 5) h 43 45 dX4_workOf_43 rfl ld5 ?_
        refine v_iload_n (i := 2) h 45 46 dX4_workOf_45 rfl rfl ld2 ?_
        refine v_icmp_eq h 46 49 80 dX4_workOf_46 rfl (by decide) (fun h46 => ?_) (fun h46 => ?_)
        · refine v_iconst (v := 0) h 80 81 dX4_workOf_80 rfl (by decide) ?_
          refine v_istore (i := 4) h 81 83 dX4_workOf_81 rfl (by decide) (so4 rfl) ?_
          refine v_iinc (i := 5) h 83 86 dX4_workOf_83 rfl ld5 (by first | exact iinc1 _ | rfl) (by decide) (so5 rfl) ?_
          refine v_goto h 86 26 dX4_workOf_86 (by decide) ?_
          have q := ih (j + 1) (by omega)
          rw [hI_s, if_pos h40, if_pos h46] at q
          exact V.weakT q (And.intro rfl (And.intro rfl (And.intro rfl (And.intro rfl (And.intro rfl (And.intro rfl trivial))))))
        · refine v_aload_n (i := 0) h 49 50 dX4_workOf_49 rfl rfl ld0 ?_
          refine v_iload (i := 5) h 50 52 dX4_workOf_50 rfl ld5 ?_
          refine v_iconst (v := 2) h 52 53 dX4_workOf_52 rfl (by decide) ?_
          refine v_callV1 h 53 56 dX4_workOf_53 rfl cb_X4_ofTeam cv_X4_ofTeam ml_ob lk_X4_47 (rok (by decide) (by decide)) ⟨rfl, rfl⟩ ⟨Nat.zero_le _, Nat.zero_le _⟩ (k_ofTeam (c := j) (k := 2) (by omega) (by decide)) rfl rfl (Nat.le_of_ble_eq_true rfl) ?_
          refine v_iconst (v := 2) h 56 57 dX4_workOf_56 rfl (by decide) ?_
          refine v_icmp_ne h 57 60 80 dX4_workOf_57 rfl (by decide) (fun h57 => ?_) (fun h57 => ?_)
          · refine v_iconst (v := 0) h 80 81 dX4_workOf_80 rfl (by decide) ?_
            refine v_istore (i := 4) h 81 83 dX4_workOf_81 rfl (by decide) (so4 rfl) ?_
            refine v_iinc (i := 5) h 83 86 dX4_workOf_83 rfl ld5 (by first | exact iinc1 _ | rfl) (by decide) (so5 rfl) ?_
            refine v_goto h 86 26 dX4_workOf_86 (by decide) ?_
            have q := ih (j + 1) (by omega)
            rw [hI_s, if_pos h40, if_neg h46, if_neg h57] at q
            exact V.weakT q (And.intro rfl (And.intro rfl (And.intro rfl (And.intro rfl (And.intro rfl (And.intro rfl trivial))))))
          · refine v_aload_n (i := 0) h 60 61 dX4_workOf_60 rfl rfl ld0 ?_
            refine v_iload (i := 5) h 61 63 dX4_workOf_61 rfl ld5 ?_
            refine v_iconst (v := 0) h 63 64 dX4_workOf_63 rfl (by decide) ?_
            refine v_callV1 h 64 67 dX4_workOf_64 rfl cb_X4_ofTeam cv_X4_ofTeam ml_ob lk_X4_47 (rok (by decide) (by decide)) ⟨rfl, rfl⟩ ⟨Nat.zero_le _, Nat.zero_le _⟩ (k_ofTeam (c := j) (k := 0) (by omega) (by decide)) rfl rfl (Nat.le_of_ble_eq_true rfl) ?_
            refine v_aload_n (i := 0) h 67 68 dX4_workOf_67 rfl rfl ld0 ?_
            refine v_iload_n (i := 1) h 68 69 dX4_workOf_68 rfl rfl ld1 ?_
            refine v_iconst (v := 0) h 69 70 dX4_workOf_69 rfl (by decide) ?_
            refine v_callV1 h 70 73 dX4_workOf_70 rfl cb_X4_of cv_X4_of ml_ob lk_X4_43 (rok (by decide) (by decide)) ⟨rfl, rfl⟩ ⟨Nat.zero_le _, Nat.zero_le _⟩ (k_of (c := c) (k := 0) (by omega) (by decide)) rfl rfl (Nat.le_of_ble_eq_true rfl) ?_
            refine v_icmp_ne h 73 76 80 dX4_workOf_73 rfl (by decide) (fun h73 => ?_) (fun h73 => ?_)
            · refine v_iconst (v := 0) h 80 81 dX4_workOf_80 rfl (by decide) ?_
              refine v_istore (i := 4) h 81 83 dX4_workOf_81 rfl (by decide) (so4 rfl) ?_
              refine v_iinc (i := 5) h 83 86 dX4_workOf_83 rfl ld5 (by first | exact iinc1 _ | rfl) (by decide) (so5 rfl) ?_
              refine v_goto h 86 26 dX4_workOf_86 (by decide) ?_
              have q := ih (j + 1) (by omega)
              rw [hI_s, if_pos h40, if_neg h46, if_pos h57, if_neg h73] at q
              exact V.weakT q (And.intro rfl (And.intro rfl (And.intro rfl (And.intro rfl (And.intro rfl (And.intro rfl trivial))))))
            · refine v_iconst (v := 1) h 76 77 dX4_workOf_76 rfl (by decide) ?_
              refine v_goto h 77 81 dX4_workOf_77 (by decide) ?_
              refine v_istore (i := 4) h 81 83 dX4_workOf_81 rfl (by decide) (so4 rfl) ?_
              refine v_iinc (i := 5) h 83 86 dX4_workOf_83 rfl ld5 (by first | exact iinc1 _ | rfl) (by decide) (so5 rfl) ?_
              refine v_goto h 86 26 dX4_workOf_86 (by decide) ?_
              have q := ih (j + 1) (by omega)
              rw [hI_s, if_pos h40, if_neg h46, if_pos h57, if_pos h73] at q
              exact V.weakT q (And.intro rfl (And.intro rfl (And.intro rfl (And.intro rfl (And.intro rfl (And.intro rfl trivial))))))
  exact V.weakT (loop26 nt 0 (by omega)) (And.intro rfl (And.intro rfl (And.intro rfl (And.intro rfl (And.intro rfl (And.intro rfl trivial))))))

theorem chs_at (S : St) (x : Int32) : ∀ n, n < 2 ^ 31 → (chs S x n).1 = -1 ∨ ∃ c, c < n ∧ (chs S x n).1 = nI c ∧ (chs S x n).2 = (rkS S c, wayV S x (S (13 + 8 * c + 0))) := by
  intro n
  induction n with
  | zero => intro _; exact Or.inl rfl
  | succ n ih =>
    intro hn
    have old : (chs S x n).1 = -1 ∨ ∃ c, c < n + 1 ∧ (chs S x n).1 = nI c ∧ (chs S x n).2 = (rkS S c, wayV S x (S (13 + 8 * c + 0))) := by
      rcases ih (by omega) with h | ⟨c, h1, h2, h3⟩
      · exact Or.inl h
      · exact Or.inr ⟨c, by omega, h2, h3⟩
    rw [chs_succ]
    have new : (nI n, rkS S n, wayV S x (S (13 + 8 * n + 0))).1 = -1 ∨ ∃ c, c < n + 1 ∧ (nI n, rkS S n, wayV S x (S (13 + 8 * n + 0))).1 = nI c ∧ (nI n, rkS S n, wayV S x (S (13 + 8 * n + 0))).2 = (rkS S c, wayV S x (S (13 + 8 * c + 0))) := Or.inr ⟨n, by omega, rfl, rfl⟩
    repeat' split
    all_goals first | exact new | exact old
theorem chs_step {S : St} {x : Int32} {j b : Nat} (hb : b < 2 ^ 31) (h0 : S (13 + 8 * j + 4) = 0) (e1 : (chs S x j).1 = nI b) (e2 : (chs S x j).2 = (rkS S b, wayV S x (S (13 + 8 * b + 0)))) : (chs S x (j + 1)).1 = if rkS S j ≤ rkS S b then (if rkS S j = rkS S b then (if wayV S x (S (13 + 8 * b + 0)) ≤ wayV S x (S (13 + 8 * j + 0)) then nI b else nI j) else nI b) else nI j := by
  rw [chs_succ, if_pos h0, if_neg (by rw [e1]; exact nI_ne_m1 hb), e2]
  by_cases h1 : rkS S j ≤ rkS S b
  · rw [if_neg (le_nlt h1), if_pos h1]
    by_cases h2 : rkS S j = rkS S b
    · rw [if_pos h2, if_pos h2]
      split
      · exact e1
      · rfl
    · rw [if_neg h2, if_neg h2]
      exact e1
  · rw [if_pos (nle_lt h1), if_neg h1]
set_option maxRecDepth 100000 in
set_option maxHeartbeats 4000000 in
theorem k_choiceM {E : EE} {D : Nat} {S : St} {Ps : Nat → St} {A K T N I : St} {hh : Int64} {w : Wo} {sp nc nt ne m : Nat} {x : Int32} (hI : Inv S sp nc nt ne m) (hx : InS x) : Cd E mX4_choiceAt (ml E D S Ps A K T N I hh w) [.ref D, .int x] (some (.int (chs S x nc).1)) (ml E D S Ps A K T N I hh w) := by
  refine Cd.of RX4 rfl (by decide) [some (.ref D), some (.int x), none, none, none, none] (Nat.le_of_ble_eq_true rfl) rfl (fun Γ h f hmn => ?_)
  have hnc := hI.n14
  have e7 := hI.c7
  refine v_iconst (v := (-1)) h 0 1 dX4_choiceAt_0 rfl (by decide) ?_
  refine v_istore_n (i := 2) h 1 2 dX4_choiceAt_1 rfl rfl (by decide) (so2 rfl) ?_
  refine v_iconst (v := 0) h 2 3 dX4_choiceAt_2 rfl (by decide) ?_
  refine v_istore_n (i := 3) h 3 4 dX4_choiceAt_3 rfl rfl (by decide) (so3 rfl) ?_
  have loop4 : ∀ d j, j + d = nc → V E Γ 0 0 4 [some (.ref D), some (.int x), some (.int (chs S x j).1), some (.int (nI j)), none, none] [] (ml E D S Ps A K T N I hh w) := by
    intro d
    induction d with
    | zero =>
      intro j hj
      obtain rfl : nc = j := by omega
      refine v_iload_n (i := 3) h 4 5 dX4_choiceAt_4 rfl rfl ld3 ?_
      refine v_aload_n (i := 0) h 5 6 dX4_choiceAt_5 rfl rfl ld0 ?_
      refine v_get h 6 9 dX4_choiceAt_6 rfl fo_X4_7 ml_ob rfl ?_
      refine v_bipush (v := nI 7) h 9 11 dX4_choiceAt_9 rfl (by decide) ?_
      refine v_ildSm h 11 12 _ dX4_choiceAt_11 rfl (by omega) ?_
      refine v_icmp_ge h 12 15 121 dX4_choiceAt_12 rfl (by decide) (fun h12 => ?_) (fun h12 => absurd (by rw [e7]; exact nI_le (Nat.le_refl _) (by omega)) h12)
      refine v_iload_n (i := 2) h 121 122 dX4_choiceAt_121 rfl rfl ld2 ?_
      exact v_iret h 122 f dX4_choiceAt_122 rfl (Nat.zero_le _) (Nat.zero_le _) rfl rfl
    | succ d ih =>
      intro j hj
      refine v_iload_n (i := 3) h 4 5 dX4_choiceAt_4 rfl rfl ld3 ?_
      refine v_aload_n (i := 0) h 5 6 dX4_choiceAt_5 rfl rfl ld0 ?_
      refine v_get h 6 9 dX4_choiceAt_6 rfl fo_X4_7 ml_ob rfl ?_
      refine v_bipush (v := nI 7) h 9 11 dX4_choiceAt_9 rfl (by decide) ?_
      refine v_ildSm h 11 12 _ dX4_choiceAt_11 rfl (by omega) ?_
      refine v_icmp_ge h 12 15 121 dX4_choiceAt_12 rfl (by decide) (fun h12 => absurd h12 (by rw [e7]; exact nI_ge (by omega) (by omega))) (fun h12 => ?_)
      refine v_aload_n (i := 0) h 15 16 dX4_choiceAt_15 rfl rfl ld0 ?_
      refine v_iload_n (i := 3) h 16 17 dX4_choiceAt_16 rfl rfl ld3 ?_
      refine v_iconst (v := 4) h 17 18 dX4_choiceAt_17 rfl (by decide) ?_
      refine v_callV1 h 18 21 dX4_choiceAt_18 rfl cb_X4_of cv_X4_of ml_ob lk_X4_43 (rok (by decide) (by decide)) ⟨rfl, rfl⟩ ⟨Nat.zero_le _, Nat.zero_le _⟩ (k_of (c := j) (k := 4) (by omega) (by decide)) rfl rfl (Nat.le_of_ble_eq_true rfl) ?_
      refine v_if_ne h 21 24 115 dX4_choiceAt_21 rfl (by decide) (fun h21 => ?_) (fun h21 => ?_)
      · refine v_iinc (i := 3) h 115 118 dX4_choiceAt_115 rfl ld3 (by first | exact iinc1 _ | rfl) (by decide) (so3 rfl) ?_
        refine v_goto h 118 4 dX4_choiceAt_118 (by decide) ?_
        have q := ih (j + 1) (by omega)
        rw [chs_succ, if_neg h21] at q
        exact V.weakT q (And.intro rfl (And.intro rfl (And.intro rfl (And.intro rfl trivial))))
      · rcases chs_at S x j (by omega) with e1 | ⟨b, hb, e1, e2⟩
        · refine v_iload_n (i := 2) h 24 25 dX4_choiceAt_24 rfl rfl ld2 ?_
          refine v_iconst (v := (-1)) h 25 26 dX4_choiceAt_25 rfl (by decide) ?_
          refine v_icmp_eq h 26 29 42 dX4_choiceAt_26 rfl (by decide) (fun h26 => ?_) (fun h26 => absurd e1 h26)
          refine v_iconst (v := 1) h 42 43 dX4_choiceAt_42 rfl (by decide) ?_
          refine v_goto h 43 47 dX4_choiceAt_43 (by decide) ?_
          refine v_istore (i := 4) h 47 49 dX4_choiceAt_47 rfl (by decide) (so4 rfl) ?_
          refine v_iload_n (i := 2) h 49 50 dX4_choiceAt_49 rfl rfl ld2 ?_
          refine v_iconst (v := (-1)) h 50 51 dX4_choiceAt_50 rfl (by decide) ?_
          refine v_icmp_eq h 51 54 71 dX4_choiceAt_51 rfl (by decide) (fun h51 => ?_) (fun h51 => absurd e1 h51)
          refine v_iconst (v := 0) h 71 72 dX4_choiceAt_71 rfl (by decide) ?_
          refine v_istore (i := 5) h 72 74 dX4_choiceAt_72 rfl (by decide) (so5 rfl) ?_
          refine v_iload (i := 4) h 74 76 dX4_choiceAt_74 rfl ld4 ?_
          refine v_if_ne h 76 79 109 dX4_choiceAt_76 rfl (by decide) (fun h76 => ?_) (fun h76 => absurd h76 (by decide))
          refine v_iload_n (i := 3) h 109 110 dX4_choiceAt_109 rfl rfl ld3 ?_
          refine v_goto h 110 114 dX4_choiceAt_110 (by decide) ?_
          refine v_istore_n (i := 2) h 114 115 dX4_choiceAt_114 rfl rfl (by decide) (so2 rfl) ?_
          refine v_iinc (i := 3) h 115 118 dX4_choiceAt_115 rfl ld3 (by first | exact iinc1 _ | rfl) (by decide) (so3 rfl) ?_
          refine v_goto h 118 4 dX4_choiceAt_118 (by decide) ?_
          have q := ih (j + 1) (by omega)
          rw [chs_succ, if_pos h21, if_pos e1] at q
          exact V.weakT q (And.intro rfl (And.intro rfl (And.intro rfl (And.intro rfl trivial))))
        · rw [e1]
          refine v_iload_n (i := 2) h 24 25 dX4_choiceAt_24 rfl rfl ld2 ?_
          refine v_iconst (v := (-1)) h 25 26 dX4_choiceAt_25 rfl (by decide) ?_
          refine v_icmp_eq h 26 29 42 dX4_choiceAt_26 rfl (by decide) (fun h26 => absurd h26 (nI_ne_m1 (by omega))) (fun h26 => ?_)
          refine v_aload_n (i := 0) h 29 30 dX4_choiceAt_29 rfl rfl ld0 ?_
          refine v_iload_n (i := 3) h 30 31 dX4_choiceAt_30 rfl rfl ld3 ?_
          refine v_callV1 h 31 34 dX4_choiceAt_31 rfl cb_X4_rankOf cv_X4_rankOf ml_ob lk_X4_50 (rok (by decide) (by decide)) ⟨rfl, rfl⟩ ⟨Nat.zero_le _, Nat.zero_le _⟩ (k_rankOf (c := j) (by omega) (hI.chz _ (by omega))) rfl rfl (Nat.le_of_ble_eq_true rfl) ?_
          refine v_aload_n (i := 0) h 34 35 dX4_choiceAt_34 rfl rfl ld0 ?_
          refine v_iload_n (i := 2) h 35 36 dX4_choiceAt_35 rfl rfl ld2 ?_
          refine v_callV1 h 36 39 dX4_choiceAt_36 rfl cb_X4_rankOf cv_X4_rankOf ml_ob lk_X4_50 (rok (by decide) (by decide)) ⟨rfl, rfl⟩ ⟨Nat.zero_le _, Nat.zero_le _⟩ (k_rankOf (c := b) (by omega) (hI.chz _ (by omega))) rfl rfl (Nat.le_of_ble_eq_true rfl) ?_
          refine v_icmp_le h 39 42 46 dX4_choiceAt_39 rfl (by decide) (fun h39 => ?_) (fun h39 => ?_)
          · refine v_iconst (v := 0) h 46 47 dX4_choiceAt_46 rfl (by decide) ?_
            refine v_istore (i := 4) h 47 49 dX4_choiceAt_47 rfl (by decide) (so4 rfl) ?_
            refine v_iload_n (i := 2) h 49 50 dX4_choiceAt_49 rfl rfl ld2 ?_
            refine v_iconst (v := (-1)) h 50 51 dX4_choiceAt_50 rfl (by decide) ?_
            refine v_icmp_eq h 51 54 71 dX4_choiceAt_51 rfl (by decide) (fun h51 => absurd h51 (nI_ne_m1 (by omega))) (fun h51 => ?_)
            refine v_aload_n (i := 0) h 54 55 dX4_choiceAt_54 rfl rfl ld0 ?_
            refine v_iload_n (i := 3) h 55 56 dX4_choiceAt_55 rfl rfl ld3 ?_
            refine v_callV1 h 56 59 dX4_choiceAt_56 rfl cb_X4_rankOf cv_X4_rankOf ml_ob lk_X4_50 (rok (by decide) (by decide)) ⟨rfl, rfl⟩ ⟨Nat.zero_le _, Nat.zero_le _⟩ (k_rankOf (c := j) (by omega) (hI.chz _ (by omega))) rfl rfl (Nat.le_of_ble_eq_true rfl) ?_
            refine v_aload_n (i := 0) h 59 60 dX4_choiceAt_59 rfl rfl ld0 ?_
            refine v_iload_n (i := 2) h 60 61 dX4_choiceAt_60 rfl rfl ld2 ?_
            refine v_callV1 h 61 64 dX4_choiceAt_61 rfl cb_X4_rankOf cv_X4_rankOf ml_ob lk_X4_50 (rok (by decide) (by decide)) ⟨rfl, rfl⟩ ⟨Nat.zero_le _, Nat.zero_le _⟩ (k_rankOf (c := b) (by omega) (hI.chz _ (by omega))) rfl rfl (Nat.le_of_ble_eq_true rfl) ?_
            refine v_icmp_ne h 64 67 71 dX4_choiceAt_64 rfl (by decide) (fun h64 => ?_) (fun h64 => ?_)
            · refine v_iconst (v := 0) h 71 72 dX4_choiceAt_71 rfl (by decide) ?_
              refine v_istore (i := 5) h 72 74 dX4_choiceAt_72 rfl (by decide) (so5 rfl) ?_
              refine v_iload (i := 4) h 74 76 dX4_choiceAt_74 rfl ld4 ?_
              refine v_if_ne h 76 79 109 dX4_choiceAt_76 rfl (by decide) (fun h76 => absurd rfl h76) (fun h76 => ?_)
              refine v_iload (i := 5) h 79 81 dX4_choiceAt_79 rfl ld5 ?_
              refine v_if_eq h 81 84 113 dX4_choiceAt_81 rfl (by decide) (fun h81 => ?_) (fun h81 => absurd (by decide) h81)
              refine v_iload_n (i := 2) h 113 114 dX4_choiceAt_113 rfl rfl ld2 ?_
              refine v_istore_n (i := 2) h 114 115 dX4_choiceAt_114 rfl rfl (by decide) (so2 rfl) ?_
              refine v_iinc (i := 3) h 115 118 dX4_choiceAt_115 rfl ld3 (by first | exact iinc1 _ | rfl) (by decide) (so3 rfl) ?_
              refine v_goto h 118 4 dX4_choiceAt_118 (by decide) ?_
              have q := ih (j + 1) (by omega)
              rw [chs_step (by omega) h21 e1 e2, if_pos h39, if_neg h64] at q
              exact V.weakT q (And.intro rfl (And.intro rfl (And.intro rfl (And.intro rfl trivial))))
            · refine v_iconst (v := 1) h 67 68 dX4_choiceAt_67 rfl (by decide) ?_
              refine v_goto h 68 72 dX4_choiceAt_68 (by decide) ?_
              refine v_istore (i := 5) h 72 74 dX4_choiceAt_72 rfl (by decide) (so5 rfl) ?_
              refine v_iload (i := 4) h 74 76 dX4_choiceAt_74 rfl ld4 ?_
              refine v_if_ne h 76 79 109 dX4_choiceAt_76 rfl (by decide) (fun h76 => absurd rfl h76) (fun h76 => ?_)
              refine v_iload (i := 5) h 79 81 dX4_choiceAt_79 rfl ld5 ?_
              refine v_if_eq h 81 84 113 dX4_choiceAt_81 rfl (by decide) (fun h81 => absurd h81 (by decide)) (fun h81 => ?_)
              refine v_aload_n (i := 0) h 84 85 dX4_choiceAt_84 rfl rfl ld0 ?_
              refine v_iload_n (i := 1) h 85 86 dX4_choiceAt_85 rfl rfl ld1 ?_
              refine v_aload_n (i := 0) h 86 87 dX4_choiceAt_86 rfl rfl ld0 ?_
              refine v_iload_n (i := 3) h 87 88 dX4_choiceAt_87 rfl rfl ld3 ?_
              refine v_iconst (v := 0) h 88 89 dX4_choiceAt_88 rfl (by decide) ?_
              refine v_callV1 h 89 92 dX4_choiceAt_89 rfl cb_X4_of cv_X4_of ml_ob lk_X4_43 (rok (by decide) (by decide)) ⟨rfl, rfl⟩ ⟨Nat.zero_le _, Nat.zero_le _⟩ (k_of (c := j) (k := 0) (by omega) (by decide)) rfl rfl (Nat.le_of_ble_eq_true rfl) ?_
              refine v_callV1 h 92 95 dX4_choiceAt_92 rfl cb_X4_wayOf cv_X4_wayOf ml_ob lk_X4_53 (rok (by decide) (by decide)) ⟨rfl, rfl⟩ ⟨Nat.zero_le _, Nat.zero_le _⟩ (k_wayOf hx (hI.InC j (by omega))) rfl rfl (Nat.le_of_ble_eq_true rfl) ?_
              refine v_aload_n (i := 0) h 95 96 dX4_choiceAt_95 rfl rfl ld0 ?_
              refine v_iload_n (i := 1) h 96 97 dX4_choiceAt_96 rfl rfl ld1 ?_
              refine v_aload_n (i := 0) h 97 98 dX4_choiceAt_97 rfl rfl ld0 ?_
              refine v_iload_n (i := 2) h 98 99 dX4_choiceAt_98 rfl rfl ld2 ?_
              refine v_iconst (v := 0) h 99 100 dX4_choiceAt_99 rfl (by decide) ?_
              refine v_callV1 h 100 103 dX4_choiceAt_100 rfl cb_X4_of cv_X4_of ml_ob lk_X4_43 (rok (by decide) (by decide)) ⟨rfl, rfl⟩ ⟨Nat.zero_le _, Nat.zero_le _⟩ (k_of (c := b) (k := 0) (by omega) (by decide)) rfl rfl (Nat.le_of_ble_eq_true rfl) ?_
              refine v_callV1 h 103 106 dX4_choiceAt_103 rfl cb_X4_wayOf cv_X4_wayOf ml_ob lk_X4_53 (rok (by decide) (by decide)) ⟨rfl, rfl⟩ ⟨Nat.zero_le _, Nat.zero_le _⟩ (k_wayOf hx (hI.InC b (by omega))) rfl rfl (Nat.le_of_ble_eq_true rfl) ?_
              refine v_icmp_ge h 106 109 113 dX4_choiceAt_106 rfl (by decide) (fun h106 => ?_) (fun h106 => ?_)
              · refine v_iload_n (i := 2) h 113 114 dX4_choiceAt_113 rfl rfl ld2 ?_
                refine v_istore_n (i := 2) h 114 115 dX4_choiceAt_114 rfl rfl (by decide) (so2 rfl) ?_
                refine v_iinc (i := 3) h 115 118 dX4_choiceAt_115 rfl ld3 (by first | exact iinc1 _ | rfl) (by decide) (so3 rfl) ?_
                refine v_goto h 118 4 dX4_choiceAt_118 (by decide) ?_
                have q := ih (j + 1) (by omega)
                rw [chs_step (by omega) h21 e1 e2, if_pos h39, if_pos h64, if_pos h106] at q
                exact V.weakT q (And.intro rfl (And.intro rfl (And.intro rfl (And.intro rfl trivial))))
              · refine v_iload_n (i := 3) h 109 110 dX4_choiceAt_109 rfl rfl ld3 ?_
                refine v_goto h 110 114 dX4_choiceAt_110 (by decide) ?_
                refine v_istore_n (i := 2) h 114 115 dX4_choiceAt_114 rfl rfl (by decide) (so2 rfl) ?_
                refine v_iinc (i := 3) h 115 118 dX4_choiceAt_115 rfl ld3 (by first | exact iinc1 _ | rfl) (by decide) (so3 rfl) ?_
                refine v_goto h 118 4 dX4_choiceAt_118 (by decide) ?_
                have q := ih (j + 1) (by omega)
                rw [chs_step (by omega) h21 e1 e2, if_pos h39, if_pos h64, if_neg h106] at q
                exact V.weakT q (And.intro rfl (And.intro rfl (And.intro rfl (And.intro rfl trivial))))
          · refine v_iconst (v := 1) h 42 43 dX4_choiceAt_42 rfl (by decide) ?_
            refine v_goto h 43 47 dX4_choiceAt_43 (by decide) ?_
            refine v_istore (i := 4) h 47 49 dX4_choiceAt_47 rfl (by decide) (so4 rfl) ?_
            refine v_iload_n (i := 2) h 49 50 dX4_choiceAt_49 rfl rfl ld2 ?_
            refine v_iconst (v := (-1)) h 50 51 dX4_choiceAt_50 rfl (by decide) ?_
            refine v_icmp_eq h 51 54 71 dX4_choiceAt_51 rfl (by decide) (fun h51 => absurd h51 (nI_ne_m1 (by omega))) (fun h51 => ?_)
            refine v_aload_n (i := 0) h 54 55 dX4_choiceAt_54 rfl rfl ld0 ?_
            refine v_iload_n (i := 3) h 55 56 dX4_choiceAt_55 rfl rfl ld3 ?_
            refine v_callV1 h 56 59 dX4_choiceAt_56 rfl cb_X4_rankOf cv_X4_rankOf ml_ob lk_X4_50 (rok (by decide) (by decide)) ⟨rfl, rfl⟩ ⟨Nat.zero_le _, Nat.zero_le _⟩ (k_rankOf (c := j) (by omega) (hI.chz _ (by omega))) rfl rfl (Nat.le_of_ble_eq_true rfl) ?_
            refine v_aload_n (i := 0) h 59 60 dX4_choiceAt_59 rfl rfl ld0 ?_
            refine v_iload_n (i := 2) h 60 61 dX4_choiceAt_60 rfl rfl ld2 ?_
            refine v_callV1 h 61 64 dX4_choiceAt_61 rfl cb_X4_rankOf cv_X4_rankOf ml_ob lk_X4_50 (rok (by decide) (by decide)) ⟨rfl, rfl⟩ ⟨Nat.zero_le _, Nat.zero_le _⟩ (k_rankOf (c := b) (by omega) (hI.chz _ (by omega))) rfl rfl (Nat.le_of_ble_eq_true rfl) ?_
            refine v_icmp_ne h 64 67 71 dX4_choiceAt_64 rfl (by decide) (fun h64 => ?_) (fun h64 => ?_)
            · refine v_iconst (v := 0) h 71 72 dX4_choiceAt_71 rfl (by decide) ?_
              refine v_istore (i := 5) h 72 74 dX4_choiceAt_72 rfl (by decide) (so5 rfl) ?_
              refine v_iload (i := 4) h 74 76 dX4_choiceAt_74 rfl ld4 ?_
              refine v_if_ne h 76 79 109 dX4_choiceAt_76 rfl (by decide) (fun h76 => ?_) (fun h76 => absurd h76 (by decide))
              refine v_iload_n (i := 3) h 109 110 dX4_choiceAt_109 rfl rfl ld3 ?_
              refine v_goto h 110 114 dX4_choiceAt_110 (by decide) ?_
              refine v_istore_n (i := 2) h 114 115 dX4_choiceAt_114 rfl rfl (by decide) (so2 rfl) ?_
              refine v_iinc (i := 3) h 115 118 dX4_choiceAt_115 rfl ld3 (by first | exact iinc1 _ | rfl) (by decide) (so3 rfl) ?_
              refine v_goto h 118 4 dX4_choiceAt_118 (by decide) ?_
              have q := ih (j + 1) (by omega)
              rw [chs_step (by omega) h21 e1 e2, if_neg h39] at q
              exact V.weakT q (And.intro rfl (And.intro rfl (And.intro rfl (And.intro rfl trivial))))
            · refine v_iconst (v := 1) h 67 68 dX4_choiceAt_67 rfl (by decide) ?_
              refine v_goto h 68 72 dX4_choiceAt_68 (by decide) ?_
              refine v_istore (i := 5) h 72 74 dX4_choiceAt_72 rfl (by decide) (so5 rfl) ?_
              refine v_iload (i := 4) h 74 76 dX4_choiceAt_74 rfl ld4 ?_
              refine v_if_ne h 76 79 109 dX4_choiceAt_76 rfl (by decide) (fun h76 => ?_) (fun h76 => absurd h76 (by decide))
              refine v_iload_n (i := 3) h 109 110 dX4_choiceAt_109 rfl rfl ld3 ?_
              refine v_goto h 110 114 dX4_choiceAt_110 (by decide) ?_
              refine v_istore_n (i := 2) h 114 115 dX4_choiceAt_114 rfl rfl (by decide) (so2 rfl) ?_
              refine v_iinc (i := 3) h 115 118 dX4_choiceAt_115 rfl ld3 (by first | exact iinc1 _ | rfl) (by decide) (so3 rfl) ?_
              refine v_goto h 118 4 dX4_choiceAt_118 (by decide) ?_
              have q := ih (j + 1) (by omega)
              rw [chs_step (by omega) h21 e1 e2, if_neg h39] at q
              exact V.weakT q (And.intro rfl (And.intro rfl (And.intro rfl (And.intro rfl trivial))))
  exact V.weakT (loop4 nc 0 (by omega)) (And.intro rfl (And.intro rfl (And.intro rfl (And.intro rfl trivial))))

set_option maxRecDepth 100000 in
set_option maxHeartbeats 4000000 in
theorem k_begins {E : EE} {D : Nat} {S : St} {Ps : Nat → St} {A K T N I : St} {hh : Int64} {w : Wo} {t : Nat} (ht : t < 4) (d l : Int32) : Cd E mX4_begins (ml E D S Ps A K T N I hh w) [.ref D, .int (nI t), .int d, .int l] (none) (ml E D (upd (upd S (125 + 8 * t + 2) d) (125 + 8 * t + 3) l) Ps A K T N I hh w) := by
  refine Cd.of RX4 rfl (by decide) [some (.ref D), some (.int (nI t)), some (.int d), some (.int l)] (Nat.le_of_ble_eq_true rfl) rfl (fun Γ h f hmn => ?_)
  refine v_aload_n (i := 0) h 0 1 dX4_begins_0 rfl rfl ld0 ?_
  refine v_iload_n (i := 1) h 1 2 dX4_begins_1 rfl rfl ld1 ?_
  refine v_iconst (v := 2) h 2 3 dX4_begins_2 rfl (by decide) ?_
  refine v_iload_n (i := 2) h 3 4 dX4_begins_3 rfl rfl ld2 ?_
  refine v_callV0 h 4 7 dX4_begins_4 rfl cb_X4_putsTeam cv_X4_putsTeam ml_ob lk_X4_56 (rok (by decide) (by decide)) ⟨rfl, rfl⟩ ⟨Nat.zero_le _, Nat.zero_le _⟩ (k_putsTeam (c := t) (k := 2) (by omega) (by decide) _) rfl rfl (Nat.le_of_ble_eq_true rfl) ?_
  refine v_aload_n (i := 0) h 7 8 dX4_begins_7 rfl rfl ld0 ?_
  refine v_iload_n (i := 1) h 8 9 dX4_begins_8 rfl rfl ld1 ?_
  refine v_iconst (v := 3) h 9 10 dX4_begins_9 rfl (by decide) ?_
  refine v_iload_n (i := 3) h 10 11 dX4_begins_10 rfl rfl ld3 ?_
  refine v_callV0 h 11 14 dX4_begins_11 rfl cb_X4_putsTeam cv_X4_putsTeam ml_ob lk_X4_56 (rok (by decide) (by decide)) ⟨rfl, rfl⟩ ⟨Nat.zero_le _, Nat.zero_le _⟩ (k_putsTeam (c := t) (k := 3) (by omega) (by decide) _) rfl rfl (Nat.le_of_ble_eq_true rfl) ?_
  exact v_ret h 14 f dX4_begins_14 rfl (Nat.zero_le _) (Nat.zero_le _) rfl rfl

theorem mn30 {x : Int32} : (if x < 30 then x else 30) = if x ≤ 30 then x else 30 := by
  by_cases h : x < 30
  · rw [if_pos h, if_pos (Int32.le_of_lt h)]
  · rw [if_neg h]
    by_cases h2 : x ≤ 30
    · rw [if_pos h2]
      exact Int32.le_antisymm (nlt_le h) h2
    · rw [if_neg h2]
theorem mx0 {x : Int32} : (if 0 < x then x else 0) = if 0 ≤ x then x else 0 := by
  by_cases h : 0 < x
  · rw [if_pos h, if_pos (Int32.le_of_lt h)]
  · rw [if_neg h]
    by_cases h2 : 0 ≤ x
    · rw [if_pos h2]
      exact Int32.le_antisymm h2 (nlt_le h)
    · rw [if_neg h2]
theorem lt10 {x : Int32} : ((if x ≤ 30 then x else 30) < 10) = (x < 10) := by
  by_cases h : x ≤ 30
  · rw [if_pos h]
  · rw [if_neg h]
    refine propext ⟨fun q => absurd q (by decide), fun q => absurd (Int32.le_of_lt (Int32.lt_trans q (show (10 : Int32) < 30 by decide))) h⟩
/-- what is where when a chair has been emptied -/
def fK (S : St) (t c ne : Nat) : St := fun i =>
  if i = 12 then S 12 + 1 else if i = 157 + ne then nI c else if i = 13 + 8 * c + 4 then 2 else if i = 13 + 8 * c + 6 then S 9 + 1
  else if i = 125 + 8 * t + 5 then S (125 + 8 * t + 5) + 1 else if i = 125 + 8 * t + 6 then S (125 + 8 * t + 6) + S (13 + 8 * c + 1)
  else if i = 125 + 8 * t + 1 then (if S (125 + 8 * t + 1) + S (13 + 8 * c + 1) ≤ 30 then S (125 + 8 * t + 1) + S (13 + 8 * c + 1) else 30)
  else if i = 125 + 8 * t + 2 then (if S (125 + 8 * t + 1) + S (13 + 8 * c + 1) < 10 then 0 else 3) else if i = 125 + 8 * t + 3 then (if S (125 + 8 * t + 1) + S (13 + 8 * c + 1) < 10 then 0 else 5)
  else if i = 125 + 8 * t + 4 then -1 else fin0 S c i
theorem fin_fK {S : St} {t c ne : Nat} (hc : c < 14) (ht : t < 4) (hne : ne < 14) (e12 : S 12 = nI ne) (e4 : S (125 + 8 * t + 4) = nI c) : finS S t c = fK S t c ne := by
  have e12' : fin0 S c 12 = nI ne := (fin0_ne (by omega) (by omega)).trans e12
  have e4' : fin0 S c (125 + 8 * t + 4) = nI c := (fin0_ne (by omega) (by omega)).trans e4
  have e1' : fin0 S c (125 + 8 * t + 1) = S (125 + 8 * t + 1) := fin0_ne (by omega) (by omega)
  have e5' : fin0 S c (125 + 8 * t + 5) = S (125 + 8 * t + 5) := fin0_ne (by omega) (by omega)
  have e6' : fin0 S c (125 + 8 * t + 6) = S (125 + 8 * t + 6) := fin0_ne (by omega) (by omega)
  have e9' : fin0 S c (13 + 8 * c + 1) = S (13 + 8 * c + 1) := fin0_ne (by omega) (by omega)
  funext i
  unfold fK
  unfold finS
  generalize fin0 S c = Z at e12' e4' e1' e5' e6' e9' ⊢
  unfold fn8
  by_cases h10 : S (125 + 8 * t + 1) + S (13 + 8 * c + 1) < 10
  · rw [if_pos h10, if_pos h10]
    have hh : idleS (fn6 (fn5 (fn4 (fn3 (fn2 (fn1 Z c (S 9 + 1)) t)) t) t c) t c) t (125 + 8 * t + 1) = if S (125 + 8 * t + 1) + S (13 + 8 * c + 1) ≤ 30 then S (125 + 8 * t + 1) + S (13 + 8 * c + 1) else 30 := by
      unfold idleS fn6 fn5 fn4 fn3 fn2 fn1
      simp (disch := omega) only [upd_self, upd_ne, e12', nI_clamp, e1', e9', mn30]
    rw [hh, if_pos (by rw [lt10]; exact h10)]
    unfold idleS fn6 fn5 fn4 fn3 fn2 fn1
    simp (disch := omega) only [upd_ne (S := Z) (i := 13 + 8 * c + 4) (j := 12), upd_self, upd_ne, e12', nI_clamp, e1', e9', e4', e5', e6', mn30]
    by_cases q0 : i = 12
    · rw [if_pos q0]
      subst q0
      simp (disch := omega) only [upd_self, upd_ne, e12, e12', e4', e5', e6', e1', e9']
    rw [if_neg q0]
    by_cases q1 : i = 157 + ne
    · rw [if_pos q1]
      subst q1
      simp (disch := omega) only [upd_self, upd_ne, e12, e12', e4', e5', e6', e1', e9']
    rw [if_neg q1]
    by_cases q2 : i = 13 + 8 * c + 4
    · rw [if_pos q2]
      subst q2
      simp (disch := omega) only [upd_self, upd_ne, e12, e12', e4', e5', e6', e1', e9']
    rw [if_neg q2]
    by_cases q3 : i = 13 + 8 * c + 6
    · rw [if_pos q3]
      subst q3
      simp (disch := omega) only [upd_self, upd_ne, e12, e12', e4', e5', e6', e1', e9']
    rw [if_neg q3]
    by_cases q4 : i = 125 + 8 * t + 5
    · rw [if_pos q4]
      subst q4
      simp (disch := omega) only [upd_self, upd_ne, e12, e12', e4', e5', e6', e1', e9']
    rw [if_neg q4]
    by_cases q5 : i = 125 + 8 * t + 6
    · rw [if_pos q5]
      subst q5
      simp (disch := omega) only [upd_self, upd_ne, e12, e12', e4', e5', e6', e1', e9']
    rw [if_neg q5]
    by_cases q6 : i = 125 + 8 * t + 1
    · rw [if_pos q6]
      subst q6
      simp (disch := omega) only [upd_self, upd_ne, e12, e12', e4', e5', e6', e1', e9']
    rw [if_neg q6]
    by_cases q7 : i = 125 + 8 * t + 2
    · rw [if_pos q7]
      subst q7
      simp (disch := omega) only [upd_self, upd_ne, e12, e12', e4', e5', e6', e1', e9']
    rw [if_neg q7]
    by_cases q8 : i = 125 + 8 * t + 3
    · rw [if_pos q8]
      subst q8
      simp (disch := omega) only [upd_self, upd_ne, e12, e12', e4', e5', e6', e1', e9']
    rw [if_neg q8]
    by_cases q9 : i = 125 + 8 * t + 4
    · rw [if_pos q9]
      subst q9
      simp (disch := omega) only [upd_self, upd_ne, e12, e12', e4', e5', e6', e1', e9']
    rw [if_neg q9]
    simp (disch := omega) only [upd_ne]
  · rw [if_neg h10, if_neg h10]
    have hh : idleS (fn6 (fn5 (fn4 (fn3 (fn2 (fn1 Z c (S 9 + 1)) t)) t) t c) t c) t (125 + 8 * t + 1) = if S (125 + 8 * t + 1) + S (13 + 8 * c + 1) ≤ 30 then S (125 + 8 * t + 1) + S (13 + 8 * c + 1) else 30 := by
      unfold idleS fn6 fn5 fn4 fn3 fn2 fn1
      simp (disch := omega) only [upd_self, upd_ne, e12', nI_clamp, e1', e9', mn30]
    rw [hh, if_neg (by rw [lt10]; exact h10)]
    unfold idleS fn6 fn5 fn4 fn3 fn2 fn1
    simp (disch := omega) only [upd_ne (S := Z) (i := 13 + 8 * c + 4) (j := 12), upd_self, upd_ne, e12', nI_clamp, e1', e9', e4', e5', e6', mn30]
    by_cases q0 : i = 12
    · rw [if_pos q0]
      subst q0
      simp (disch := omega) only [upd_self, upd_ne, e12, e12', e4', e5', e6', e1', e9']
    rw [if_neg q0]
    by_cases q1 : i = 157 + ne
    · rw [if_pos q1]
      subst q1
      simp (disch := omega) only [upd_self, upd_ne, e12, e12', e4', e5', e6', e1', e9']
    rw [if_neg q1]
    by_cases q2 : i = 13 + 8 * c + 4
    · rw [if_pos q2]
      subst q2
      simp (disch := omega) only [upd_self, upd_ne, e12, e12', e4', e5', e6', e1', e9']
    rw [if_neg q2]
    by_cases q3 : i = 13 + 8 * c + 6
    · rw [if_pos q3]
      subst q3
      simp (disch := omega) only [upd_self, upd_ne, e12, e12', e4', e5', e6', e1', e9']
    rw [if_neg q3]
    by_cases q4 : i = 125 + 8 * t + 5
    · rw [if_pos q4]
      subst q4
      simp (disch := omega) only [upd_self, upd_ne, e12, e12', e4', e5', e6', e1', e9']
    rw [if_neg q4]
    by_cases q5 : i = 125 + 8 * t + 6
    · rw [if_pos q5]
      subst q5
      simp (disch := omega) only [upd_self, upd_ne, e12, e12', e4', e5', e6', e1', e9']
    rw [if_neg q5]
    by_cases q6 : i = 125 + 8 * t + 1
    · rw [if_pos q6]
      subst q6
      simp (disch := omega) only [upd_self, upd_ne, e12, e12', e4', e5', e6', e1', e9']
    rw [if_neg q6]
    by_cases q7 : i = 125 + 8 * t + 2
    · rw [if_pos q7]
      subst q7
      simp (disch := omega) only [upd_self, upd_ne, e12, e12', e4', e5', e6', e1', e9']
    rw [if_neg q7]
    by_cases q8 : i = 125 + 8 * t + 3
    · rw [if_pos q8]
      subst q8
      simp (disch := omega) only [upd_self, upd_ne, e12, e12', e4', e5', e6', e1', e9']
    rw [if_neg q8]
    by_cases q9 : i = 125 + 8 * t + 4
    · rw [if_pos q9]
      subst q9
      simp (disch := omega) only [upd_self, upd_ne, e12, e12', e4', e5', e6', e1', e9']
    rw [if_neg q9]
    simp (disch := omega) only [upd_ne]

set_option maxRecDepth 100000 in
set_option maxHeartbeats 4000000 in
theorem k_empties {E : EE} {D : Nat} {S : St} {Ps : Nat → St} {A K T N I : St} {hh : Int64} {w : Wo} {t c ne : Nat} (ht : t < 4) (hc : c < 14) (hne : ne < 14) (e12 : S 12 = nI ne) (e4 : S (125 + 8 * t + 4) = nI c) : Cd E mX4_empties (ml E D S Ps A K T N I hh w) [.ref D, .int (nI t)] (none) (ml E D (finS S t c) Ps A K T N I hh w) := by
  refine Cd.of RX4 rfl (by decide) [some (.ref D), some (.int (nI t)), none, none, none, none] (Nat.le_of_ble_eq_true rfl) rfl (fun Γ h f hmn => ?_)
  have e12' : fin0 S c 12 = nI ne := (fin0_ne (by omega) (by omega)).trans e12
  have e4' : fin0 S c (125 + 8 * t + 4) = nI c := (fin0_ne (by omega) (by omega)).trans e4
  have e1' : fin0 S c (125 + 8 * t + 1) = S (125 + 8 * t + 1) := fin0_ne (by omega) (by omega)
  have e5' : fin0 S c (125 + 8 * t + 5) = S (125 + 8 * t + 5) := fin0_ne (by omega) (by omega)
  have e6' : fin0 S c (125 + 8 * t + 6) = S (125 + 8 * t + 6) := fin0_ne (by omega) (by omega)
  have e9' : fin0 S c (13 + 8 * c + 1) = S (13 + 8 * c + 1) := fin0_ne (by omega) (by omega)
  rw [fin_fK hc ht hne e12 e4] at f
  have k90 : V E Γ 0 0 90 [some (.ref D), some (.int (nI t)), some (.int (nI c)), some (.int (S (13 + 8 * c + 1))), some (.int (S (125 + 8 * t + 1) + S (13 + 8 * c + 1))), some (.int (S 9 + 1))] [] (ml E D (upd (upd (fin0 S c) (13 + 8 * c + 4) 2) (13 + 8 * c + 6) (S 9 + 1)) Ps A K T N I hh w) := by
    refine v_aload_n (i := 0) h 90 91 dX4_empties_90 rfl rfl ld0 ?_
    refine v_get h 91 94 dX4_empties_91 rfl fo_X4_7 ml_ob rfl ?_
    refine v_sipush (v := nI 157) h 94 97 dX4_empties_94 rfl (by decide) ?_
    refine v_aload_n (i := 0) h 97 98 dX4_empties_97 rfl rfl ld0 ?_
    refine v_get h 98 101 dX4_empties_98 rfl fo_X4_7 ml_ob rfl ?_
    refine v_bipush (v := nI 12) h 101 103 dX4_empties_101 rfl (by decide) ?_
    refine v_ildSm h 103 104 _ dX4_empties_103 rfl (by omega) ?_
    rw [show (upd (upd (fin0 S c) (13 + 8 * c + 4) 2) (13 + 8 * c + 6) (S 9 + 1)) 12 = nI ne by simp (disch := omega) only [upd_ne, e12']]
    refine v_iadd h 104 105 dX4_empties_104 rfl ?_
    rw [nI_add]
    refine v_iload_n (i := 2) h 105 106 dX4_empties_105 rfl rfl ld2 ?_
    refine v_istSm h 106 107 _ dX4_empties_106 rfl (by omega) ?_
    refine v_aload_n (i := 0) h 107 108 dX4_empties_107 rfl rfl ld0 ?_
    refine v_get h 108 111 dX4_empties_108 rfl fo_X4_7 ml_ob rfl ?_
    refine v_bipush (v := nI 12) h 111 113 dX4_empties_111 rfl (by decide) ?_
    refine v_dup2 h 113 114 dX4_empties_113 rfl rfl rfl ?_
    refine v_ildSm h 114 115 _ dX4_empties_114 rfl (by omega) ?_
    refine v_iconst (v := 1) h 115 116 dX4_empties_115 rfl (by decide) ?_
    refine v_iadd h 116 117 dX4_empties_116 rfl ?_
    refine v_istSm h 117 118 _ dX4_empties_117 rfl (by omega) ?_
    refine v_aload_n (i := 0) h 118 119 dX4_empties_118 rfl rfl ld0 ?_
    refine v_iload_n (i := 1) h 119 120 dX4_empties_119 rfl rfl ld1 ?_
    refine v_iconst (v := 1) h 120 121 dX4_empties_120 rfl (by decide) ?_
    refine v_iload (i := 4) h 121 123 dX4_empties_121 rfl ld4 ?_
    refine v_bipush (v := 30) h 123 125 dX4_empties_123 rfl (by decide) ?_
    refine v_icmp_le h 125 128 133 dX4_empties_125 rfl (by decide) (fun h125 => ?_) (fun h125 => ?_)
    · refine v_iload (i := 4) h 133 135 dX4_empties_133 rfl ld4 ?_
      refine v_callV0 h 135 138 dX4_empties_135 rfl cb_X4_putsTeam cv_X4_putsTeam ml_ob lk_X4_56 (rok (by decide) (by decide)) ⟨rfl, rfl⟩ ⟨Nat.zero_le _, Nat.zero_le _⟩ (k_putsTeam (c := t) (k := 1) (by omega) (by decide) _) rfl rfl (Nat.le_of_ble_eq_true rfl) ?_
      refine v_aload_n (i := 0) h 138 139 dX4_empties_138 rfl rfl ld0 ?_
      refine v_iload_n (i := 1) h 139 140 dX4_empties_139 rfl rfl ld1 ?_
      refine v_iconst (v := 4) h 140 141 dX4_empties_140 rfl (by decide) ?_
      refine v_iconst (v := (-1)) h 141 142 dX4_empties_141 rfl (by decide) ?_
      refine v_callV0 h 142 145 dX4_empties_142 rfl cb_X4_putsTeam cv_X4_putsTeam ml_ob lk_X4_56 (rok (by decide) (by decide)) ⟨rfl, rfl⟩ ⟨Nat.zero_le _, Nat.zero_le _⟩ (k_putsTeam (c := t) (k := 4) (by omega) (by decide) _) rfl rfl (Nat.le_of_ble_eq_true rfl) ?_
      refine v_aload_n (i := 0) h 145 146 dX4_empties_145 rfl rfl ld0 ?_
      refine v_iload_n (i := 1) h 146 147 dX4_empties_146 rfl rfl ld1 ?_
      refine v_iconst (v := 5) h 147 148 dX4_empties_147 rfl (by decide) ?_
      refine v_aload_n (i := 0) h 148 149 dX4_empties_148 rfl rfl ld0 ?_
      refine v_iload_n (i := 1) h 149 150 dX4_empties_149 rfl rfl ld1 ?_
      refine v_iconst (v := 5) h 150 151 dX4_empties_150 rfl (by decide) ?_
      refine v_callV1 h 151 154 dX4_empties_151 rfl cb_X4_ofTeam cv_X4_ofTeam ml_ob lk_X4_47 (rok (by decide) (by decide)) ⟨rfl, rfl⟩ ⟨Nat.zero_le _, Nat.zero_le _⟩ (k_ofTeam (c := t) (k := 5) (by omega) (by decide)) rfl rfl (Nat.le_of_ble_eq_true rfl) ?_
      refine v_iconst (v := 1) h 154 155 dX4_empties_154 rfl (by decide) ?_
      refine v_iadd h 155 156 dX4_empties_155 rfl ?_
      refine v_callV0 h 156 159 dX4_empties_156 rfl cb_X4_putsTeam cv_X4_putsTeam ml_ob lk_X4_56 (rok (by decide) (by decide)) ⟨rfl, rfl⟩ ⟨Nat.zero_le _, Nat.zero_le _⟩ (k_putsTeam (c := t) (k := 5) (by omega) (by decide) _) rfl rfl (Nat.le_of_ble_eq_true rfl) ?_
      refine v_aload_n (i := 0) h 159 160 dX4_empties_159 rfl rfl ld0 ?_
      refine v_iload_n (i := 1) h 160 161 dX4_empties_160 rfl rfl ld1 ?_
      refine v_bipush (v := 6) h 161 163 dX4_empties_161 rfl (by decide) ?_
      refine v_aload_n (i := 0) h 163 164 dX4_empties_163 rfl rfl ld0 ?_
      refine v_iload_n (i := 1) h 164 165 dX4_empties_164 rfl rfl ld1 ?_
      refine v_bipush (v := 6) h 165 167 dX4_empties_165 rfl (by decide) ?_
      refine v_callV1 h 167 170 dX4_empties_167 rfl cb_X4_ofTeam cv_X4_ofTeam ml_ob lk_X4_47 (rok (by decide) (by decide)) ⟨rfl, rfl⟩ ⟨Nat.zero_le _, Nat.zero_le _⟩ (k_ofTeam (c := t) (k := 6) (by omega) (by decide)) rfl rfl (Nat.le_of_ble_eq_true rfl) ?_
      refine v_iload_n (i := 3) h 170 171 dX4_empties_170 rfl rfl ld3 ?_
      refine v_iadd h 171 172 dX4_empties_171 rfl ?_
      refine v_callV0 h 172 175 dX4_empties_172 rfl cb_X4_putsTeam cv_X4_putsTeam ml_ob lk_X4_56 (rok (by decide) (by decide)) ⟨rfl, rfl⟩ ⟨Nat.zero_le _, Nat.zero_le _⟩ (k_putsTeam (c := t) (k := 6) (by omega) (by decide) _) rfl rfl (Nat.le_of_ble_eq_true rfl) ?_
      refine v_aload_n (i := 0) h 175 176 dX4_empties_175 rfl rfl ld0 ?_
      refine v_iload_n (i := 1) h 176 177 dX4_empties_176 rfl rfl ld1 ?_
      refine v_iload (i := 4) h 177 179 dX4_empties_177 rfl ld4 ?_
      refine v_bipush (v := 10) h 179 181 dX4_empties_179 rfl (by decide) ?_
      refine v_icmp_lt h 181 184 188 dX4_empties_181 rfl (by decide) (fun h181 => ?_) (fun h181 => ?_)
      · refine v_iconst (v := 0) h 188 189 dX4_empties_188 rfl (by decide) ?_
        refine v_iload (i := 4) h 189 191 dX4_empties_189 rfl ld4 ?_
        refine v_bipush (v := 10) h 191 193 dX4_empties_191 rfl (by decide) ?_
        refine v_icmp_lt h 193 196 200 dX4_empties_193 rfl (by decide) (fun h193 => ?_) (fun h193 => absurd h181 h193)
        refine v_iconst (v := 0) h 200 201 dX4_empties_200 rfl (by decide) ?_
        refine v_callV0 h 201 204 dX4_empties_201 rfl cb_X4_begins cv_X4_begins ml_ob lk_X4_63 (rok (by decide) (by decide)) ⟨rfl, rfl⟩ ⟨Nat.zero_le _, Nat.zero_le _⟩ (k_begins ht _ _) rfl rfl (Nat.le_of_ble_eq_true rfl) ?_
        refine v_ret h 204 f dX4_empties_204 rfl (Nat.zero_le _) (Nat.zero_le _) ?_ ?_
        · rfl
        · refine congrArg (fun z => ml E D z Ps A K T N I hh w) ?_
          funext i
          unfold fK
          rw [if_pos h125, if_pos h181, if_pos h181]
          by_cases q0 : i = 12
          · rw [if_pos q0]
            subst q0
            simp (disch := omega) only [upd_self, upd_ne, e12, e12', e4', e5', e6', e1', e9']
          rw [if_neg q0]
          by_cases q1 : i = 157 + ne
          · rw [if_pos q1]
            subst q1
            simp (disch := omega) only [upd_self, upd_ne, e12, e12', e4', e5', e6', e1', e9']
          rw [if_neg q1]
          by_cases q2 : i = 13 + 8 * c + 4
          · rw [if_pos q2]
            subst q2
            simp (disch := omega) only [upd_self, upd_ne, e12, e12', e4', e5', e6', e1', e9']
          rw [if_neg q2]
          by_cases q3 : i = 13 + 8 * c + 6
          · rw [if_pos q3]
            subst q3
            simp (disch := omega) only [upd_self, upd_ne, e12, e12', e4', e5', e6', e1', e9']
          rw [if_neg q3]
          by_cases q4 : i = 125 + 8 * t + 5
          · rw [if_pos q4]
            subst q4
            simp (disch := omega) only [upd_self, upd_ne, e12, e12', e4', e5', e6', e1', e9']
          rw [if_neg q4]
          by_cases q5 : i = 125 + 8 * t + 6
          · rw [if_pos q5]
            subst q5
            simp (disch := omega) only [upd_self, upd_ne, e12, e12', e4', e5', e6', e1', e9']
          rw [if_neg q5]
          by_cases q6 : i = 125 + 8 * t + 1
          · rw [if_pos q6]
            subst q6
            simp (disch := omega) only [upd_self, upd_ne, e12, e12', e4', e5', e6', e1', e9']
          rw [if_neg q6]
          by_cases q7 : i = 125 + 8 * t + 2
          · rw [if_pos q7]
            subst q7
            simp (disch := omega) only [upd_self, upd_ne, e12, e12', e4', e5', e6', e1', e9']
          rw [if_neg q7]
          by_cases q8 : i = 125 + 8 * t + 3
          · rw [if_pos q8]
            subst q8
            simp (disch := omega) only [upd_self, upd_ne, e12, e12', e4', e5', e6', e1', e9']
          rw [if_neg q8]
          by_cases q9 : i = 125 + 8 * t + 4
          · rw [if_pos q9]
            subst q9
            simp (disch := omega) only [upd_self, upd_ne, e12, e12', e4', e5', e6', e1', e9']
          rw [if_neg q9]
          simp (disch := omega) only [upd_ne]
      · refine v_iconst (v := 3) h 184 185 dX4_empties_184 rfl (by decide) ?_
        refine v_goto h 185 189 dX4_empties_185 (by decide) ?_
        refine v_iload (i := 4) h 189 191 dX4_empties_189 rfl ld4 ?_
        refine v_bipush (v := 10) h 191 193 dX4_empties_191 rfl (by decide) ?_
        refine v_icmp_lt h 193 196 200 dX4_empties_193 rfl (by decide) (fun h193 => absurd h193 h181) (fun h193 => ?_)
        refine v_iconst (v := 5) h 196 197 dX4_empties_196 rfl (by decide) ?_
        refine v_goto h 197 201 dX4_empties_197 (by decide) ?_
        refine v_callV0 h 201 204 dX4_empties_201 rfl cb_X4_begins cv_X4_begins ml_ob lk_X4_63 (rok (by decide) (by decide)) ⟨rfl, rfl⟩ ⟨Nat.zero_le _, Nat.zero_le _⟩ (k_begins ht _ _) rfl rfl (Nat.le_of_ble_eq_true rfl) ?_
        refine v_ret h 204 f dX4_empties_204 rfl (Nat.zero_le _) (Nat.zero_le _) ?_ ?_
        · rfl
        · refine congrArg (fun z => ml E D z Ps A K T N I hh w) ?_
          funext i
          unfold fK
          rw [if_pos h125, if_neg h181, if_neg h181]
          by_cases q0 : i = 12
          · rw [if_pos q0]
            subst q0
            simp (disch := omega) only [upd_self, upd_ne, e12, e12', e4', e5', e6', e1', e9']
          rw [if_neg q0]
          by_cases q1 : i = 157 + ne
          · rw [if_pos q1]
            subst q1
            simp (disch := omega) only [upd_self, upd_ne, e12, e12', e4', e5', e6', e1', e9']
          rw [if_neg q1]
          by_cases q2 : i = 13 + 8 * c + 4
          · rw [if_pos q2]
            subst q2
            simp (disch := omega) only [upd_self, upd_ne, e12, e12', e4', e5', e6', e1', e9']
          rw [if_neg q2]
          by_cases q3 : i = 13 + 8 * c + 6
          · rw [if_pos q3]
            subst q3
            simp (disch := omega) only [upd_self, upd_ne, e12, e12', e4', e5', e6', e1', e9']
          rw [if_neg q3]
          by_cases q4 : i = 125 + 8 * t + 5
          · rw [if_pos q4]
            subst q4
            simp (disch := omega) only [upd_self, upd_ne, e12, e12', e4', e5', e6', e1', e9']
          rw [if_neg q4]
          by_cases q5 : i = 125 + 8 * t + 6
          · rw [if_pos q5]
            subst q5
            simp (disch := omega) only [upd_self, upd_ne, e12, e12', e4', e5', e6', e1', e9']
          rw [if_neg q5]
          by_cases q6 : i = 125 + 8 * t + 1
          · rw [if_pos q6]
            subst q6
            simp (disch := omega) only [upd_self, upd_ne, e12, e12', e4', e5', e6', e1', e9']
          rw [if_neg q6]
          by_cases q7 : i = 125 + 8 * t + 2
          · rw [if_pos q7]
            subst q7
            simp (disch := omega) only [upd_self, upd_ne, e12, e12', e4', e5', e6', e1', e9']
          rw [if_neg q7]
          by_cases q8 : i = 125 + 8 * t + 3
          · rw [if_pos q8]
            subst q8
            simp (disch := omega) only [upd_self, upd_ne, e12, e12', e4', e5', e6', e1', e9']
          rw [if_neg q8]
          by_cases q9 : i = 125 + 8 * t + 4
          · rw [if_pos q9]
            subst q9
            simp (disch := omega) only [upd_self, upd_ne, e12, e12', e4', e5', e6', e1', e9']
          rw [if_neg q9]
          simp (disch := omega) only [upd_ne]
    · refine v_bipush (v := 30) h 128 130 dX4_empties_128 rfl (by decide) ?_
      refine v_goto h 130 135 dX4_empties_130 (by decide) ?_
      refine v_callV0 h 135 138 dX4_empties_135 rfl cb_X4_putsTeam cv_X4_putsTeam ml_ob lk_X4_56 (rok (by decide) (by decide)) ⟨rfl, rfl⟩ ⟨Nat.zero_le _, Nat.zero_le _⟩ (k_putsTeam (c := t) (k := 1) (by omega) (by decide) _) rfl rfl (Nat.le_of_ble_eq_true rfl) ?_
      refine v_aload_n (i := 0) h 138 139 dX4_empties_138 rfl rfl ld0 ?_
      refine v_iload_n (i := 1) h 139 140 dX4_empties_139 rfl rfl ld1 ?_
      refine v_iconst (v := 4) h 140 141 dX4_empties_140 rfl (by decide) ?_
      refine v_iconst (v := (-1)) h 141 142 dX4_empties_141 rfl (by decide) ?_
      refine v_callV0 h 142 145 dX4_empties_142 rfl cb_X4_putsTeam cv_X4_putsTeam ml_ob lk_X4_56 (rok (by decide) (by decide)) ⟨rfl, rfl⟩ ⟨Nat.zero_le _, Nat.zero_le _⟩ (k_putsTeam (c := t) (k := 4) (by omega) (by decide) _) rfl rfl (Nat.le_of_ble_eq_true rfl) ?_
      refine v_aload_n (i := 0) h 145 146 dX4_empties_145 rfl rfl ld0 ?_
      refine v_iload_n (i := 1) h 146 147 dX4_empties_146 rfl rfl ld1 ?_
      refine v_iconst (v := 5) h 147 148 dX4_empties_147 rfl (by decide) ?_
      refine v_aload_n (i := 0) h 148 149 dX4_empties_148 rfl rfl ld0 ?_
      refine v_iload_n (i := 1) h 149 150 dX4_empties_149 rfl rfl ld1 ?_
      refine v_iconst (v := 5) h 150 151 dX4_empties_150 rfl (by decide) ?_
      refine v_callV1 h 151 154 dX4_empties_151 rfl cb_X4_ofTeam cv_X4_ofTeam ml_ob lk_X4_47 (rok (by decide) (by decide)) ⟨rfl, rfl⟩ ⟨Nat.zero_le _, Nat.zero_le _⟩ (k_ofTeam (c := t) (k := 5) (by omega) (by decide)) rfl rfl (Nat.le_of_ble_eq_true rfl) ?_
      refine v_iconst (v := 1) h 154 155 dX4_empties_154 rfl (by decide) ?_
      refine v_iadd h 155 156 dX4_empties_155 rfl ?_
      refine v_callV0 h 156 159 dX4_empties_156 rfl cb_X4_putsTeam cv_X4_putsTeam ml_ob lk_X4_56 (rok (by decide) (by decide)) ⟨rfl, rfl⟩ ⟨Nat.zero_le _, Nat.zero_le _⟩ (k_putsTeam (c := t) (k := 5) (by omega) (by decide) _) rfl rfl (Nat.le_of_ble_eq_true rfl) ?_
      refine v_aload_n (i := 0) h 159 160 dX4_empties_159 rfl rfl ld0 ?_
      refine v_iload_n (i := 1) h 160 161 dX4_empties_160 rfl rfl ld1 ?_
      refine v_bipush (v := 6) h 161 163 dX4_empties_161 rfl (by decide) ?_
      refine v_aload_n (i := 0) h 163 164 dX4_empties_163 rfl rfl ld0 ?_
      refine v_iload_n (i := 1) h 164 165 dX4_empties_164 rfl rfl ld1 ?_
      refine v_bipush (v := 6) h 165 167 dX4_empties_165 rfl (by decide) ?_
      refine v_callV1 h 167 170 dX4_empties_167 rfl cb_X4_ofTeam cv_X4_ofTeam ml_ob lk_X4_47 (rok (by decide) (by decide)) ⟨rfl, rfl⟩ ⟨Nat.zero_le _, Nat.zero_le _⟩ (k_ofTeam (c := t) (k := 6) (by omega) (by decide)) rfl rfl (Nat.le_of_ble_eq_true rfl) ?_
      refine v_iload_n (i := 3) h 170 171 dX4_empties_170 rfl rfl ld3 ?_
      refine v_iadd h 171 172 dX4_empties_171 rfl ?_
      refine v_callV0 h 172 175 dX4_empties_172 rfl cb_X4_putsTeam cv_X4_putsTeam ml_ob lk_X4_56 (rok (by decide) (by decide)) ⟨rfl, rfl⟩ ⟨Nat.zero_le _, Nat.zero_le _⟩ (k_putsTeam (c := t) (k := 6) (by omega) (by decide) _) rfl rfl (Nat.le_of_ble_eq_true rfl) ?_
      refine v_aload_n (i := 0) h 175 176 dX4_empties_175 rfl rfl ld0 ?_
      refine v_iload_n (i := 1) h 176 177 dX4_empties_176 rfl rfl ld1 ?_
      refine v_iload (i := 4) h 177 179 dX4_empties_177 rfl ld4 ?_
      refine v_bipush (v := 10) h 179 181 dX4_empties_179 rfl (by decide) ?_
      refine v_icmp_lt h 181 184 188 dX4_empties_181 rfl (by decide) (fun h181 => ?_) (fun h181 => ?_)
      · refine v_iconst (v := 0) h 188 189 dX4_empties_188 rfl (by decide) ?_
        refine v_iload (i := 4) h 189 191 dX4_empties_189 rfl ld4 ?_
        refine v_bipush (v := 10) h 191 193 dX4_empties_191 rfl (by decide) ?_
        refine v_icmp_lt h 193 196 200 dX4_empties_193 rfl (by decide) (fun h193 => ?_) (fun h193 => absurd h181 h193)
        refine v_iconst (v := 0) h 200 201 dX4_empties_200 rfl (by decide) ?_
        refine v_callV0 h 201 204 dX4_empties_201 rfl cb_X4_begins cv_X4_begins ml_ob lk_X4_63 (rok (by decide) (by decide)) ⟨rfl, rfl⟩ ⟨Nat.zero_le _, Nat.zero_le _⟩ (k_begins ht _ _) rfl rfl (Nat.le_of_ble_eq_true rfl) ?_
        refine v_ret h 204 f dX4_empties_204 rfl (Nat.zero_le _) (Nat.zero_le _) ?_ ?_
        · rfl
        · refine congrArg (fun z => ml E D z Ps A K T N I hh w) ?_
          funext i
          unfold fK
          rw [if_neg h125, if_pos h181, if_pos h181]
          by_cases q0 : i = 12
          · rw [if_pos q0]
            subst q0
            simp (disch := omega) only [upd_self, upd_ne, e12, e12', e4', e5', e6', e1', e9']
          rw [if_neg q0]
          by_cases q1 : i = 157 + ne
          · rw [if_pos q1]
            subst q1
            simp (disch := omega) only [upd_self, upd_ne, e12, e12', e4', e5', e6', e1', e9']
          rw [if_neg q1]
          by_cases q2 : i = 13 + 8 * c + 4
          · rw [if_pos q2]
            subst q2
            simp (disch := omega) only [upd_self, upd_ne, e12, e12', e4', e5', e6', e1', e9']
          rw [if_neg q2]
          by_cases q3 : i = 13 + 8 * c + 6
          · rw [if_pos q3]
            subst q3
            simp (disch := omega) only [upd_self, upd_ne, e12, e12', e4', e5', e6', e1', e9']
          rw [if_neg q3]
          by_cases q4 : i = 125 + 8 * t + 5
          · rw [if_pos q4]
            subst q4
            simp (disch := omega) only [upd_self, upd_ne, e12, e12', e4', e5', e6', e1', e9']
          rw [if_neg q4]
          by_cases q5 : i = 125 + 8 * t + 6
          · rw [if_pos q5]
            subst q5
            simp (disch := omega) only [upd_self, upd_ne, e12, e12', e4', e5', e6', e1', e9']
          rw [if_neg q5]
          by_cases q6 : i = 125 + 8 * t + 1
          · rw [if_pos q6]
            subst q6
            simp (disch := omega) only [upd_self, upd_ne, e12, e12', e4', e5', e6', e1', e9']
          rw [if_neg q6]
          by_cases q7 : i = 125 + 8 * t + 2
          · rw [if_pos q7]
            subst q7
            simp (disch := omega) only [upd_self, upd_ne, e12, e12', e4', e5', e6', e1', e9']
          rw [if_neg q7]
          by_cases q8 : i = 125 + 8 * t + 3
          · rw [if_pos q8]
            subst q8
            simp (disch := omega) only [upd_self, upd_ne, e12, e12', e4', e5', e6', e1', e9']
          rw [if_neg q8]
          by_cases q9 : i = 125 + 8 * t + 4
          · rw [if_pos q9]
            subst q9
            simp (disch := omega) only [upd_self, upd_ne, e12, e12', e4', e5', e6', e1', e9']
          rw [if_neg q9]
          simp (disch := omega) only [upd_ne]
      · refine v_iconst (v := 3) h 184 185 dX4_empties_184 rfl (by decide) ?_
        refine v_goto h 185 189 dX4_empties_185 (by decide) ?_
        refine v_iload (i := 4) h 189 191 dX4_empties_189 rfl ld4 ?_
        refine v_bipush (v := 10) h 191 193 dX4_empties_191 rfl (by decide) ?_
        refine v_icmp_lt h 193 196 200 dX4_empties_193 rfl (by decide) (fun h193 => absurd h193 h181) (fun h193 => ?_)
        refine v_iconst (v := 5) h 196 197 dX4_empties_196 rfl (by decide) ?_
        refine v_goto h 197 201 dX4_empties_197 (by decide) ?_
        refine v_callV0 h 201 204 dX4_empties_201 rfl cb_X4_begins cv_X4_begins ml_ob lk_X4_63 (rok (by decide) (by decide)) ⟨rfl, rfl⟩ ⟨Nat.zero_le _, Nat.zero_le _⟩ (k_begins ht _ _) rfl rfl (Nat.le_of_ble_eq_true rfl) ?_
        refine v_ret h 204 f dX4_empties_204 rfl (Nat.zero_le _) (Nat.zero_le _) ?_ ?_
        · rfl
        · refine congrArg (fun z => ml E D z Ps A K T N I hh w) ?_
          funext i
          unfold fK
          rw [if_neg h125, if_neg h181, if_neg h181]
          by_cases q0 : i = 12
          · rw [if_pos q0]
            subst q0
            simp (disch := omega) only [upd_self, upd_ne, e12, e12', e4', e5', e6', e1', e9']
          rw [if_neg q0]
          by_cases q1 : i = 157 + ne
          · rw [if_pos q1]
            subst q1
            simp (disch := omega) only [upd_self, upd_ne, e12, e12', e4', e5', e6', e1', e9']
          rw [if_neg q1]
          by_cases q2 : i = 13 + 8 * c + 4
          · rw [if_pos q2]
            subst q2
            simp (disch := omega) only [upd_self, upd_ne, e12, e12', e4', e5', e6', e1', e9']
          rw [if_neg q2]
          by_cases q3 : i = 13 + 8 * c + 6
          · rw [if_pos q3]
            subst q3
            simp (disch := omega) only [upd_self, upd_ne, e12, e12', e4', e5', e6', e1', e9']
          rw [if_neg q3]
          by_cases q4 : i = 125 + 8 * t + 5
          · rw [if_pos q4]
            subst q4
            simp (disch := omega) only [upd_self, upd_ne, e12, e12', e4', e5', e6', e1', e9']
          rw [if_neg q4]
          by_cases q5 : i = 125 + 8 * t + 6
          · rw [if_pos q5]
            subst q5
            simp (disch := omega) only [upd_self, upd_ne, e12, e12', e4', e5', e6', e1', e9']
          rw [if_neg q5]
          by_cases q6 : i = 125 + 8 * t + 1
          · rw [if_pos q6]
            subst q6
            simp (disch := omega) only [upd_self, upd_ne, e12, e12', e4', e5', e6', e1', e9']
          rw [if_neg q6]
          by_cases q7 : i = 125 + 8 * t + 2
          · rw [if_pos q7]
            subst q7
            simp (disch := omega) only [upd_self, upd_ne, e12, e12', e4', e5', e6', e1', e9']
          rw [if_neg q7]
          by_cases q8 : i = 125 + 8 * t + 3
          · rw [if_pos q8]
            subst q8
            simp (disch := omega) only [upd_self, upd_ne, e12, e12', e4', e5', e6', e1', e9']
          rw [if_neg q8]
          by_cases q9 : i = 125 + 8 * t + 4
          · rw [if_pos q9]
            subst q9
            simp (disch := omega) only [upd_self, upd_ne, e12, e12', e4', e5', e6', e1', e9']
          rw [if_neg q9]
          simp (disch := omega) only [upd_ne]
  refine v_aload_n (i := 0) h 0 1 dX4_empties_0 rfl rfl ld0 ?_
  refine v_iload_n (i := 1) h 1 2 dX4_empties_1 rfl rfl ld1 ?_
  refine v_iconst (v := 4) h 2 3 dX4_empties_2 rfl (by decide) ?_
  refine v_callV1 h 3 6 dX4_empties_3 rfl cb_X4_ofTeam cv_X4_ofTeam ml_ob lk_X4_47 (rok (by decide) (by decide)) ⟨rfl, rfl⟩ ⟨Nat.zero_le _, Nat.zero_le _⟩ (k_ofTeam (c := t) (k := 4) (by omega) (by decide)) rfl rfl (Nat.le_of_ble_eq_true rfl) ?_
  rw [e4]
  refine v_istore_n (i := 2) h 6 7 dX4_empties_6 rfl rfl (by decide) (so2 rfl) ?_
  refine v_aload_n (i := 0) h 7 8 dX4_empties_7 rfl rfl ld0 ?_
  refine v_iload_n (i := 2) h 8 9 dX4_empties_8 rfl rfl ld2 ?_
  refine v_iconst (v := 1) h 9 10 dX4_empties_9 rfl (by decide) ?_
  refine v_callV1 h 10 13 dX4_empties_10 rfl cb_X4_of cv_X4_of ml_ob lk_X4_43 (rok (by decide) (by decide)) ⟨rfl, rfl⟩ ⟨Nat.zero_le _, Nat.zero_le _⟩ (k_of (c := c) (k := 1) (by omega) (by decide)) rfl rfl (Nat.le_of_ble_eq_true rfl) ?_
  refine v_istore_n (i := 3) h 13 14 dX4_empties_13 rfl rfl (by decide) (so3 rfl) ?_
  refine v_aload_n (i := 0) h 14 15 dX4_empties_14 rfl rfl ld0 ?_
  refine v_iload_n (i := 1) h 15 16 dX4_empties_15 rfl rfl ld1 ?_
  refine v_iconst (v := 1) h 16 17 dX4_empties_16 rfl (by decide) ?_
  refine v_callV1 h 17 20 dX4_empties_17 rfl cb_X4_ofTeam cv_X4_ofTeam ml_ob lk_X4_47 (rok (by decide) (by decide)) ⟨rfl, rfl⟩ ⟨Nat.zero_le _, Nat.zero_le _⟩ (k_ofTeam (c := t) (k := 1) (by omega) (by decide)) rfl rfl (Nat.le_of_ble_eq_true rfl) ?_
  refine v_iload_n (i := 3) h 20 21 dX4_empties_20 rfl rfl ld3 ?_
  refine v_iadd h 21 22 dX4_empties_21 rfl ?_
  refine v_istore (i := 4) h 22 24 dX4_empties_22 rfl (by decide) (so4 rfl) ?_
  refine v_aload_n (i := 0) h 24 25 dX4_empties_24 rfl rfl ld0 ?_
  refine v_get h 25 28 dX4_empties_25 rfl fo_X4_7 ml_ob rfl ?_
  refine v_bipush (v := nI 9) h 28 30 dX4_empties_28 rfl (by decide) ?_
  refine v_ildSm h 30 31 _ dX4_empties_30 rfl (by omega) ?_
  refine v_iconst (v := 1) h 31 32 dX4_empties_31 rfl (by decide) ?_
  refine v_iadd h 32 33 dX4_empties_32 rfl ?_
  refine v_istore (i := 5) h 33 35 dX4_empties_33 rfl (by decide) (so5 rfl) ?_
  refine v_aload_n (i := 0) h 35 36 dX4_empties_35 rfl rfl ld0 ?_
  refine v_iload_n (i := 2) h 36 37 dX4_empties_36 rfl rfl ld2 ?_
  refine v_iconst (v := 4) h 37 38 dX4_empties_37 rfl (by decide) ?_
  refine v_iconst (v := 2) h 38 39 dX4_empties_38 rfl (by decide) ?_
  refine v_callV0 h 39 42 dX4_empties_39 rfl cb_X4_puts cv_X4_puts ml_ob lk_X4_60 (rok (by decide) (by decide)) ⟨rfl, rfl⟩ ⟨Nat.zero_le _, Nat.zero_le _⟩ (k_puts (c := c) (k := 4) (by omega) (by decide) _) rfl rfl (Nat.le_of_ble_eq_true rfl) ?_
  refine v_aload_n (i := 0) h 42 43 dX4_empties_42 rfl rfl ld0 ?_
  refine v_iload_n (i := 2) h 43 44 dX4_empties_43 rfl rfl ld2 ?_
  refine v_bipush (v := 6) h 44 46 dX4_empties_44 rfl (by decide) ?_
  refine v_iload (i := 5) h 46 48 dX4_empties_46 rfl ld5 ?_
  refine v_callV0 h 48 51 dX4_empties_48 rfl cb_X4_puts cv_X4_puts ml_ob lk_X4_60 (rok (by decide) (by decide)) ⟨rfl, rfl⟩ ⟨Nat.zero_le _, Nat.zero_le _⟩ (k_puts (c := c) (k := 6) (by omega) (by decide) _) rfl rfl (Nat.le_of_ble_eq_true rfl) ?_
  refine v_aload_n (i := 0) h 51 52 dX4_empties_51 rfl rfl ld0 ?_
  refine v_iload_n (i := 2) h 52 53 dX4_empties_52 rfl rfl ld2 ?_
  refine v_bipush (v := 7) h 53 55 dX4_empties_53 rfl (by decide) ?_
  refine v_callV1 h 55 58 dX4_empties_55 rfl cb_X4_of cv_X4_of ml_ob lk_X4_43 (rok (by decide) (by decide)) ⟨rfl, rfl⟩ ⟨Nat.zero_le _, Nat.zero_le _⟩ (k_of (c := c) (k := 7) (by omega) (by decide)) rfl rfl (Nat.le_of_ble_eq_true rfl) ?_
  rw [upd_ne _ _ (show 13 + 8 * c + 7 ≠ 13 + 8 * c + 6 by omega), upd_ne _ _ (show 13 + 8 * c + 7 ≠ 13 + 8 * c + 4 by omega)]
  refine v_iconst (v := (-1)) h 58 59 dX4_empties_58 rfl (by decide) ?_
  refine v_icmp_eq h 59 62 90 dX4_empties_59 rfl (by decide) (fun h59 => ?_) (fun h59 => ?_)
  · rw [fin0, if_pos h59] at k90
    exact k90
  · refine v_aload_n (i := 0) h 62 63 dX4_empties_62 rfl rfl ld0 ?_
    refine v_get h 63 66 dX4_empties_63 rfl fo_X4_7 ml_ob rfl ?_
    refine v_iload (i := 5) h 66 68 dX4_empties_66 rfl ld5 ?_
    refine v_aload_n (i := 0) h 68 69 dX4_empties_68 rfl rfl ld0 ?_
    refine v_iload_n (i := 2) h 69 70 dX4_empties_69 rfl rfl ld2 ?_
    refine v_bipush (v := 7) h 70 72 dX4_empties_70 rfl (by decide) ?_
    refine v_callV1 h 72 75 dX4_empties_72 rfl cb_X4_of cv_X4_of ml_ob lk_X4_43 (rok (by decide) (by decide)) ⟨rfl, rfl⟩ ⟨Nat.zero_le _, Nat.zero_le _⟩ (k_of (c := c) (k := 7) (by omega) (by decide)) rfl rfl (Nat.le_of_ble_eq_true rfl) ?_
    rw [upd_ne _ _ (show 13 + 8 * c + 7 ≠ 13 + 8 * c + 6 by omega), upd_ne _ _ (show 13 + 8 * c + 7 ≠ 13 + 8 * c + 4 by omega)]
    refine v_icmp_le h 75 78 83 dX4_empties_75 rfl (by decide) (fun h75 => ?_) (fun h75 => ?_)
    · refine v_bipush (v := nI 10) h 83 85 dX4_empties_83 rfl (by decide) ?_
      refine v_dup2 h 85 86 dX4_empties_85 rfl rfl rfl ?_
      refine v_ildSm h 86 87 _ dX4_empties_86 rfl (by omega) ?_
      refine v_iconst (v := 1) h 87 88 dX4_empties_87 rfl (by decide) ?_
      refine v_iadd h 88 89 dX4_empties_88 rfl ?_
      refine v_istSm h 89 90 _ dX4_empties_89 rfl (by omega) ?_
      rw [fin0, if_neg h59, if_neg (le_nlt h75)] at k90
      refine V.world (congrArg (fun z => ml E D z Ps A K T N I hh w) ?_) k90
      simp (disch := omega) only [upd_ne]
      rw [upd_comm (i := 13 + 8 * c + 6) (j := 10) (by omega), upd_comm (i := 13 + 8 * c + 4) (j := 10) (by omega)]
    · refine v_bipush (v := nI 11) h 78 80 dX4_empties_78 rfl (by decide) ?_
      refine v_goto h 80 85 dX4_empties_80 (by decide) ?_
      refine v_dup2 h 85 86 dX4_empties_85 rfl rfl rfl ?_
      refine v_ildSm h 86 87 _ dX4_empties_86 rfl (by omega) ?_
      refine v_iconst (v := 1) h 87 88 dX4_empties_87 rfl (by decide) ?_
      refine v_iadd h 88 89 dX4_empties_88 rfl ?_
      refine v_istSm h 89 90 _ dX4_empties_89 rfl (by omega) ?_
      rw [fin0, if_neg h59, if_pos (nle_lt h75)] at k90
      refine V.world (congrArg (fun z => ml E D z Ps A K T N I hh w) ?_) k90
      simp (disch := omega) only [upd_ne]
      rw [upd_comm (i := 13 + 8 * c + 6) (j := 11) (by omega), upd_comm (i := 13 + 8 * c + 4) (j := 11) (by omega)]

theorem inv_span {S : St} {sp nc nt ne m t c : Nat} (h : Inv S sp nc nt ne m) (ht : t < nt) (hc : c < nc) : Inv (upd S (125 + 8 * t + 0) (S (13 + 8 * c + 0))) sp nc nt ne m := by
  have h14 := h.1.2.2.1
  refine inv_team h ht (fun i hi => upd_ne _ _ (by omega)) ?_
  obtain ⟨a, b, d⟩ := h.2.2.2 t ht
  unfold tmI
  rw [upd_self, upd_ne _ _ (by omega), upd_ne _ _ (by omega), upd_ne _ _ (by omega)]
  refine ⟨(h.2.2.1 c hc).1, b, ?_⟩
  rcases d with d | ⟨d1, x, d2, d3, d4, d5⟩
  · exact Or.inl d
  · exact Or.inr ⟨d1, x, d2, d3, by rw [upd_ne _ _ (by omega)]; exact d4, by rw [upd_ne _ _ (by omega)]; exact d5⟩
set_option maxRecDepth 100000 in
set_option maxHeartbeats 4000000 in
theorem k_goesOn {E : EE} {D : Nat} {S : St} {Ps : Nat → St} {A K T N I : St} {hh : Int64} {w : Wo} {sp nc nt ne m : Nat} {t : Nat} (hI : Inv S sp nc nt ne m) (ht : t < nt) (hz : ¬ S (125 + 8 * t + 2) = 0) : Cd E mX4_goesOn (ml E D S Ps A K T N I hh w) [.ref D, .int (nI t)] (none) (ml E D (goS S nt t) Ps A K T N I hh w) := by
  refine Cd.of RX4 rfl (by decide) [some (.ref D), some (.int (nI t)), none, none, none] (Nat.le_of_ble_eq_true rfl) rfl (fun Γ h f hmn => ?_)
  have hnt := hI.n4
  have hnc := hI.n14
  have ht4 : t < 4 := by omega
  have k48 : V E Γ 0 0 48 [some (.ref D), some (.int (nI t)), some (.int (S (125 + 8 * t + 2))), some (.int (S (125 + 8 * t + 3) - 1)), none] [] (ml E D (go2 (go1 S t) t) Ps A K T N I hh w) := by
    have f : Fn E Γ mX4_goesOn none (ml E D (go3 (go2 (go1 S t) t) nt t) Ps A K T N I hh w) := by
      unfold goS at f
      rw [if_neg hz] at f
      exact f
    have IA := inv_go2 hI ht4
    have a2 : S (125 + 8 * t + 2) = go2 (go1 S t) t (125 + 8 * t + 2) := (go12_ne (by omega) (by omega)).symm
    have a3 : S (125 + 8 * t + 3) - 1 = go2 (go1 S t) t (125 + 8 * t + 3) := by
      unfold go2
      rw [upd_self, go1_ne (by omega)]
    rw [a2] at hz
    rw [a2, a3]
    clear a2 a3
    generalize go2 (go1 S t) t = Z at f IA hz ⊢
    have hT := IA.2.2.2 t ht
    refine v_iload_n (i := 3) h 48 49 dX4_goesOn_48 rfl rfl ld3 ?_
    refine v_if_le h 49 52 53 dX4_goesOn_49 rfl (by decide) (fun h49 => ?_) (fun h49 => ?_)
    · refine v_iload_n (i := 2) h 53 54 dX4_goesOn_53 rfl rfl ld2 ?_
      refine v_iconst (v := 1) h 54 55 dX4_goesOn_54 rfl (by decide) ?_
      refine v_icmp_ne h 55 58 95 dX4_goesOn_55 rfl (by decide) (fun h55 => ?_) (fun h55 => ?_)
      · refine v_iload_n (i := 2) h 95 96 dX4_goesOn_95 rfl rfl ld2 ?_
        refine v_iconst (v := 2) h 96 97 dX4_goesOn_96 rfl (by decide) ?_
        refine v_icmp_ne h 97 100 108 dX4_goesOn_97 rfl (by decide) (fun h97 => ?_) (fun h97 => ?_)
        · obtain ⟨z3, z4⟩ : Z (125 + 8 * t + 2) = 3 ∧ Z (125 + 8 * t + 4) = -1 := by
            rcases hT.2.2 with ⟨d | d, e⟩ | ⟨d | d, -⟩
            · exact absurd d hz
            · exact ⟨d, e⟩
            · exact absurd d h55
            · exact absurd d h97
          refine v_aload_n (i := 0) h 108 109 dX4_goesOn_108 rfl rfl ld0 ?_
          refine v_iload_n (i := 1) h 109 110 dX4_goesOn_109 rfl rfl ld1 ?_
          refine v_iconst (v := 1) h 110 111 dX4_goesOn_110 rfl (by decide) ?_
          refine v_callV1 h 111 114 dX4_goesOn_111 rfl cb_X4_ofTeam cv_X4_ofTeam ml_ob lk_X4_47 (rok (by decide) (by decide)) ⟨rfl, rfl⟩ ⟨Nat.zero_le _, Nat.zero_le _⟩ (k_ofTeam (c := t) (k := 1) (by omega) (by decide)) rfl rfl (Nat.le_of_ble_eq_true rfl) ?_
          refine v_bipush (v := 6) h 114 116 dX4_goesOn_114 rfl (by decide) ?_
          refine v_isub h 116 117 dX4_goesOn_116 rfl ?_
          refine v_istore (i := 4) h 117 119 dX4_goesOn_117 rfl (by decide) (so4 rfl) ?_
          refine v_aload_n (i := 0) h 119 120 dX4_goesOn_119 rfl rfl ld0 ?_
          refine v_iload_n (i := 1) h 120 121 dX4_goesOn_120 rfl rfl ld1 ?_
          refine v_iconst (v := 1) h 121 122 dX4_goesOn_121 rfl (by decide) ?_
          refine v_iload (i := 4) h 122 124 dX4_goesOn_122 rfl ld4 ?_
          refine v_if_ge h 124 127 131 dX4_goesOn_124 rfl (by decide) (fun h124 => ?_) (fun h124 => ?_)
          · refine v_iload (i := 4) h 131 133 dX4_goesOn_131 rfl ld4 ?_
            refine v_callV0 h 133 136 dX4_goesOn_133 rfl cb_X4_putsTeam cv_X4_putsTeam ml_ob lk_X4_56 (rok (by decide) (by decide)) ⟨rfl, rfl⟩ ⟨Nat.zero_le _, Nat.zero_le _⟩ (k_putsTeam (c := t) (k := 1) (by omega) (by decide) _) rfl rfl (Nat.le_of_ble_eq_true rfl) ?_
            refine v_aload_n (i := 0) h 136 137 dX4_goesOn_136 rfl rfl ld0 ?_
            refine v_iload_n (i := 1) h 137 138 dX4_goesOn_137 rfl rfl ld1 ?_
            refine v_iconst (v := 0) h 138 139 dX4_goesOn_138 rfl (by decide) ?_
            refine v_iconst (v := 0) h 139 140 dX4_goesOn_139 rfl (by decide) ?_
            refine v_callV0 h 140 143 dX4_goesOn_140 rfl cb_X4_begins cv_X4_begins ml_ob lk_X4_63 (rok (by decide) (by decide)) ⟨rfl, rfl⟩ ⟨Nat.zero_le _, Nat.zero_le _⟩ (k_begins ht4 _ _) rfl rfl (Nat.le_of_ble_eq_true rfl) ?_
            refine v_ret h 143 f dX4_goesOn_143 rfl (Nat.zero_le _) (Nat.zero_le _) ?_ ?_
            · rfl
            · rw [go3, if_pos h49, if_pos z3, restS, idleS_ne (by omega), mx0, if_pos h124]
              refine congrArg (fun z => ml E D z Ps A K T N I hh w) ?_
              unfold idleS
              rw [upd_is (i := 125 + 8 * t + 4) (x := -1) (by rw [upd_ne _ _ (by omega), upd_ne _ _ (by omega)]; exact z4), upd_comm (i := 125 + 8 * t + 1) (j := 125 + 8 * t + 2) (by omega), upd_comm (i := 125 + 8 * t + 1) (j := 125 + 8 * t + 3) (by omega)]
          · refine v_iconst (v := 0) h 127 128 dX4_goesOn_127 rfl (by decide) ?_
            refine v_goto h 128 133 dX4_goesOn_128 (by decide) ?_
            refine v_callV0 h 133 136 dX4_goesOn_133 rfl cb_X4_putsTeam cv_X4_putsTeam ml_ob lk_X4_56 (rok (by decide) (by decide)) ⟨rfl, rfl⟩ ⟨Nat.zero_le _, Nat.zero_le _⟩ (k_putsTeam (c := t) (k := 1) (by omega) (by decide) _) rfl rfl (Nat.le_of_ble_eq_true rfl) ?_
            refine v_aload_n (i := 0) h 136 137 dX4_goesOn_136 rfl rfl ld0 ?_
            refine v_iload_n (i := 1) h 137 138 dX4_goesOn_137 rfl rfl ld1 ?_
            refine v_iconst (v := 0) h 138 139 dX4_goesOn_138 rfl (by decide) ?_
            refine v_iconst (v := 0) h 139 140 dX4_goesOn_139 rfl (by decide) ?_
            refine v_callV0 h 140 143 dX4_goesOn_140 rfl cb_X4_begins cv_X4_begins ml_ob lk_X4_63 (rok (by decide) (by decide)) ⟨rfl, rfl⟩ ⟨Nat.zero_le _, Nat.zero_le _⟩ (k_begins ht4 _ _) rfl rfl (Nat.le_of_ble_eq_true rfl) ?_
            refine v_ret h 143 f dX4_goesOn_143 rfl (Nat.zero_le _) (Nat.zero_le _) ?_ ?_
            · rfl
            · rw [go3, if_pos h49, if_pos z3, restS, idleS_ne (by omega), mx0, if_neg h124]
              refine congrArg (fun z => ml E D z Ps A K T N I hh w) ?_
              unfold idleS
              rw [upd_is (i := 125 + 8 * t + 4) (x := -1) (by rw [upd_ne _ _ (by omega), upd_ne _ _ (by omega)]; exact z4), upd_comm (i := 125 + 8 * t + 1) (j := 125 + 8 * t + 2) (by omega), upd_comm (i := 125 + 8 * t + 1) (j := 125 + 8 * t + 3) (by omega)]
        · obtain ⟨c, hc, e4, e5, e6⟩ := (hT.busy hz (by rw [h97]; decide)).2
          refine v_aload_n (i := 0) h 100 101 dX4_goesOn_100 rfl rfl ld0 ?_
          refine v_iload_n (i := 1) h 101 102 dX4_goesOn_101 rfl rfl ld1 ?_
          refine v_callV0 h 102 105 dX4_goesOn_102 rfl cb_X4_empties cv_X4_empties ml_ob lk_X4_69 (rok (by decide) (by decide)) ⟨rfl, rfl⟩ ⟨Nat.zero_le _, Nat.zero_le _⟩ (k_empties (c := c) ht4 (by omega) (by have := (inv_fin IA ht hc e5 e6).2; omega) IA.c12 e4) rfl rfl (Nat.le_of_ble_eq_true rfl) ?_
          refine v_goto h 105 143 dX4_goesOn_105 (by decide) ?_
          refine v_ret h 143 f dX4_goesOn_143 rfl (Nat.zero_le _) (Nat.zero_le _) ?_ ?_
          · rfl
          · rw [go3, if_pos h49, if_neg (by rw [h97]; decide), if_neg h55, e4, cnt, nI_clamp (by omega)]
      · obtain ⟨c, hc, e4, e5, e6⟩ := (hT.busy hz (by rw [h55]; decide)).2
        refine v_aload_n (i := 0) h 58 59 dX4_goesOn_58 rfl rfl ld0 ?_
        refine v_iload_n (i := 1) h 59 60 dX4_goesOn_59 rfl rfl ld1 ?_
        refine v_iconst (v := 4) h 60 61 dX4_goesOn_60 rfl (by decide) ?_
        refine v_callV1 h 61 64 dX4_goesOn_61 rfl cb_X4_ofTeam cv_X4_ofTeam ml_ob lk_X4_47 (rok (by decide) (by decide)) ⟨rfl, rfl⟩ ⟨Nat.zero_le _, Nat.zero_le _⟩ (k_ofTeam (c := t) (k := 4) (by omega) (by decide)) rfl rfl (Nat.le_of_ble_eq_true rfl) ?_
        rw [e4]
        refine v_istore (i := 4) h 64 66 dX4_goesOn_64 rfl (by decide) (so4 rfl) ?_
        refine v_aload_n (i := 0) h 66 67 dX4_goesOn_66 rfl rfl ld0 ?_
        refine v_iload_n (i := 1) h 67 68 dX4_goesOn_67 rfl rfl ld1 ?_
        refine v_iconst (v := 0) h 68 69 dX4_goesOn_68 rfl (by decide) ?_
        refine v_aload_n (i := 0) h 69 70 dX4_goesOn_69 rfl rfl ld0 ?_
        refine v_iload (i := 4) h 70 72 dX4_goesOn_70 rfl ld4 ?_
        refine v_iconst (v := 0) h 72 73 dX4_goesOn_72 rfl (by decide) ?_
        refine v_callV1 h 73 76 dX4_goesOn_73 rfl cb_X4_of cv_X4_of ml_ob lk_X4_43 (rok (by decide) (by decide)) ⟨rfl, rfl⟩ ⟨Nat.zero_le _, Nat.zero_le _⟩ (k_of (c := c) (k := 0) (by omega) (by decide)) rfl rfl (Nat.le_of_ble_eq_true rfl) ?_
        refine v_callV0 h 76 79 dX4_goesOn_76 rfl cb_X4_putsTeam cv_X4_putsTeam ml_ob lk_X4_56 (rok (by decide) (by decide)) ⟨rfl, rfl⟩ ⟨Nat.zero_le _, Nat.zero_le _⟩ (k_putsTeam (c := t) (k := 0) (by omega) (by decide) _) rfl rfl (Nat.le_of_ble_eq_true rfl) ?_
        refine v_aload_n (i := 0) h 79 80 dX4_goesOn_79 rfl rfl ld0 ?_
        refine v_iload_n (i := 1) h 80 81 dX4_goesOn_80 rfl rfl ld1 ?_
        refine v_iconst (v := 2) h 81 82 dX4_goesOn_81 rfl (by decide) ?_
        refine v_aload_n (i := 0) h 82 83 dX4_goesOn_82 rfl rfl ld0 ?_
        refine v_iload (i := 4) h 83 85 dX4_goesOn_83 rfl ld4 ?_
        refine v_iload_n (i := 1) h 85 86 dX4_goesOn_85 rfl rfl ld1 ?_
        refine v_callV1 h 86 89 dX4_goesOn_86 rfl cb_X4_workOf cv_X4_workOf ml_ob lk_X4_66 (rok (by decide) (by decide)) ⟨rfl, rfl⟩ ⟨Nat.zero_le _, Nat.zero_le _⟩ (k_workM hnt (by omega) ht (inv_span IA ht hc).c8 ((inv_span IA ht hc).2.2.1 c hc).2.1 ((inv_span IA ht hc).2.2.2 t ht).2.1) rfl rfl (Nat.le_of_ble_eq_true rfl) ?_
        refine v_callV0 h 89 92 dX4_goesOn_89 rfl cb_X4_begins cv_X4_begins ml_ob lk_X4_63 (rok (by decide) (by decide)) ⟨rfl, rfl⟩ ⟨Nat.zero_le _, Nat.zero_le _⟩ (k_begins ht4 _ _) rfl rfl (Nat.le_of_ble_eq_true rfl) ?_
        refine v_goto h 92 143 dX4_goesOn_92 (by decide) ?_
        refine v_ret h 143 f dX4_goesOn_143 rfl (Nat.zero_le _) (Nat.zero_le _) ?_ ?_
        · rfl
        · rw [go3, if_pos h49, if_neg (by rw [h55]; decide), if_pos h55, e4, cnt, nI_clamp (by omega), bringS, upd_comm (i := 125 + 8 * t + 2) (j := 125 + 8 * t + 3) (by omega)]
    · refine v_ret h 52 f dX4_goesOn_52 rfl (Nat.zero_le _) (Nat.zero_le _) ?_ ?_
      · rfl
      · rw [go3, if_neg h49]
  refine v_aload_n (i := 0) h 0 1 dX4_goesOn_0 rfl rfl ld0 ?_
  refine v_iload_n (i := 1) h 1 2 dX4_goesOn_1 rfl rfl ld1 ?_
  refine v_iconst (v := 2) h 2 3 dX4_goesOn_2 rfl (by decide) ?_
  refine v_callV1 h 3 6 dX4_goesOn_3 rfl cb_X4_ofTeam cv_X4_ofTeam ml_ob lk_X4_47 (rok (by decide) (by decide)) ⟨rfl, rfl⟩ ⟨Nat.zero_le _, Nat.zero_le _⟩ (k_ofTeam (c := t) (k := 2) (by omega) (by decide)) rfl rfl (Nat.le_of_ble_eq_true rfl) ?_
  refine v_istore_n (i := 2) h 6 7 dX4_goesOn_6 rfl rfl (by decide) (so2 rfl) ?_
  refine v_aload_n (i := 0) h 7 8 dX4_goesOn_7 rfl rfl ld0 ?_
  refine v_iload_n (i := 1) h 8 9 dX4_goesOn_8 rfl rfl ld1 ?_
  refine v_iconst (v := 3) h 9 10 dX4_goesOn_9 rfl (by decide) ?_
  refine v_callV1 h 10 13 dX4_goesOn_10 rfl cb_X4_ofTeam cv_X4_ofTeam ml_ob lk_X4_47 (rok (by decide) (by decide)) ⟨rfl, rfl⟩ ⟨Nat.zero_le _, Nat.zero_le _⟩ (k_ofTeam (c := t) (k := 3) (by omega) (by decide)) rfl rfl (Nat.le_of_ble_eq_true rfl) ?_
  refine v_iconst (v := 1) h 13 14 dX4_goesOn_13 rfl (by decide) ?_
  refine v_isub h 14 15 dX4_goesOn_14 rfl ?_
  refine v_istore_n (i := 3) h 15 16 dX4_goesOn_15 rfl rfl (by decide) (so3 rfl) ?_
  refine v_aload_n (i := 0) h 16 17 dX4_goesOn_16 rfl rfl ld0 ?_
  refine v_iload_n (i := 1) h 17 18 dX4_goesOn_17 rfl rfl ld1 ?_
  refine v_iconst (v := 3) h 18 19 dX4_goesOn_18 rfl (by decide) ?_
  refine v_iload_n (i := 3) h 19 20 dX4_goesOn_19 rfl rfl ld3 ?_
  refine v_callV0 h 20 23 dX4_goesOn_20 rfl cb_X4_putsTeam cv_X4_putsTeam ml_ob lk_X4_56 (rok (by decide) (by decide)) ⟨rfl, rfl⟩ ⟨Nat.zero_le _, Nat.zero_le _⟩ (k_putsTeam (c := t) (k := 3) (by omega) (by decide) _) rfl rfl (Nat.le_of_ble_eq_true rfl) ?_
  refine v_aload_n (i := 0) h 23 24 dX4_goesOn_23 rfl rfl ld0 ?_
  refine v_iload_n (i := 1) h 24 25 dX4_goesOn_24 rfl rfl ld1 ?_
  refine v_bipush (v := 7) h 25 27 dX4_goesOn_25 rfl (by decide) ?_
  refine v_aload_n (i := 0) h 27 28 dX4_goesOn_27 rfl rfl ld0 ?_
  refine v_iload_n (i := 1) h 28 29 dX4_goesOn_28 rfl rfl ld1 ?_
  refine v_bipush (v := 7) h 29 31 dX4_goesOn_29 rfl (by decide) ?_
  refine v_callV1 h 31 34 dX4_goesOn_31 rfl cb_X4_ofTeam cv_X4_ofTeam ml_ob lk_X4_47 (rok (by decide) (by decide)) ⟨rfl, rfl⟩ ⟨Nat.zero_le _, Nat.zero_le _⟩ (k_ofTeam (c := t) (k := 7) (by omega) (by decide)) rfl rfl (Nat.le_of_ble_eq_true rfl) ?_
  refine v_iload_n (i := 2) h 34 35 dX4_goesOn_34 rfl rfl ld2 ?_
  refine v_iconst (v := 1) h 35 36 dX4_goesOn_35 rfl (by decide) ?_
  refine v_icmp_ne h 36 39 43 dX4_goesOn_36 rfl (by decide) (fun h36 => ?_) (fun h36 => ?_)
  · refine v_iconst (v := 0) h 43 44 dX4_goesOn_43 rfl (by decide) ?_
    refine v_iadd h 44 45 dX4_goesOn_44 rfl ?_
    refine v_callV0 h 45 48 dX4_goesOn_45 rfl cb_X4_putsTeam cv_X4_putsTeam ml_ob lk_X4_56 (rok (by decide) (by decide)) ⟨rfl, rfl⟩ ⟨Nat.zero_le _, Nat.zero_le _⟩ (k_putsTeam (c := t) (k := 7) (by omega) (by decide) _) rfl rfl (Nat.le_of_ble_eq_true rfl) ?_
    rw [go1, if_neg h36, go2] at k48
    refine V.world (congrArg (fun z => ml E D z Ps A K T N I hh w) ?_) k48
    rw [Int32.add_zero, upd_same]
  · refine v_iconst (v := 1) h 39 40 dX4_goesOn_39 rfl (by decide) ?_
    refine v_goto h 40 44 dX4_goesOn_40 (by decide) ?_
    refine v_iadd h 44 45 dX4_goesOn_44 rfl ?_
    refine v_callV0 h 45 48 dX4_goesOn_45 rfl cb_X4_putsTeam cv_X4_putsTeam ml_ob lk_X4_56 (rok (by decide) (by decide)) ⟨rfl, rfl⟩ ⟨Nat.zero_le _, Nat.zero_le _⟩ (k_putsTeam (c := t) (k := 7) (by omega) (by decide) _) rfl rfl (Nat.le_of_ble_eq_true rfl) ?_
    rw [go1, if_pos h36, go2] at k48
    refine V.world (congrArg (fun z => ml E D z Ps A K T N I hh w) ?_) k48
    rw [upd_ne _ _ (show 125 + 8 * t + 7 ≠ 125 + 8 * t + 3 by omega), upd_ne _ _ (show 125 + 8 * t + 3 ≠ 125 + 8 * t + 7 by omega), upd_comm (by omega)]

