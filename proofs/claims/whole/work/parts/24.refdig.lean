/-! THE REFERENCE'S BEST SPAN AND DIGEST -/
theorem inv_8 {S : St} {sp nc nt ne m : Nat} (h : Inv S sp nc (nt + 1) ne m) : Inv (upd S 8 (nI nt)) sp nc nt ne m := by
  obtain ⟨⟨⟨a1, a2, a3, a4⟩, b1, b2, b3, b4, b5, b6⟩, hE, hC, hT⟩ := h
  refine ⟨⟨⟨by rw [upd_ne _ _ (by omega)]; exact a1, a2, a3, fun k hk => by rw [upd_ne _ _ (by omega)]; exact a4 k hk⟩, by rw [upd_ne _ _ (by omega)]; exact b1, b2, upd_self _ _ _, by omega, by rw [upd_ne _ _ (by omega)]; exact b5, by rw [upd_ne _ _ (by omega)]; exact b6⟩, by rw [cntE_eq nc (fun d hd => upd_ne _ _ (by omega))]; exact hE, fun d hd => ?_, fun t ht => ?_⟩
  · exact chI_eq (upd_ne _ _ (by omega)) (upd_ne _ _ (by omega)) (upd_ne _ _ (by omega)) (upd_ne _ _ (by omega)) (upd_ne _ _ (by omega)) (hC d hd)
  · exact tmI_eq (upd_ne _ _ (by omega)) (upd_ne _ _ (by omega)) (upd_ne _ _ (by omega)) (upd_ne _ _ (by omega)) (fun d hd a b => by rw [upd_ne _ _ (by omega), upd_ne _ _ (by omega)]; exact ⟨a, b⟩) (hT t (by omega))
abbrev BM : Type := (Int32 × Int32) × (St × St × St × St)
def bmS (S : St) (nt k : Nat) : St := standS (upd S 8 (nI (nt + 1))) nt (nI k) 0
def bmR (S : St) (m nc nt k : Nat) : St × Nat := runS nc (nt + 1) 1000 (bmS S nt k) m
def bmP (p : Int32 × Int32) (k : Nat) (v : Int32) : Int32 × Int32 := if v = -1 then p else if p.1 = -1 then (nI k, v) else if p.2 ≤ v then p else (nI k, v)
def bM (S K N I : St) (m nc nt : Nat) : Nat → BM
  | 0 => ((-1, 0), (S, K, N, I))
  | k + 1 => (bmP (bM S K N I m nc nt k).1 k (outI (bmR (bM S K N I m nc nt k).2.1 m nc nt k)), (upd (bmS (bM S K N I m nc nt k).2.1 nt k) 8 (nI nt), bmS (bM S K N I m nc nt k).2.1 nt k, cpA (bM S K N I m nc nt k).2.2.2.1 (fun c => (bmR (bM S K N I m nc nt k).2.1 m nc nt k).1 (13 + 8 * c + 6)) nc, upd (bM S K N I m nc nt k).2.2.2.2 3 (outI (bmR (bM S K N I m nc nt k).2.1 m nc nt k))))
theorem bM_s (S K N I : St) (m nc nt k : Nat) : bM S K N I m nc nt (k + 1) = (bmP (bM S K N I m nc nt k).1 k (outI (bmR (bM S K N I m nc nt k).2.1 m nc nt k)), (upd (bmS (bM S K N I m nc nt k).2.1 nt k) 8 (nI nt), bmS (bM S K N I m nc nt k).2.1 nt k, cpA (bM S K N I m nc nt k).2.2.2.1 (fun c => (bmR (bM S K N I m nc nt k).2.1 m nc nt k).1 (13 + 8 * c + 6)) nc, upd (bM S K N I m nc nt k).2.2.2.2 3 (outI (bmR (bM S K N I m nc nt k).2.1 m nc nt k)))) := rfl
theorem inv_bmS {S : St} {sp nc nt ne m k : Nat} (h : Inv S sp nc nt ne m) (h4 : nt < 4) (hk : k < sp) : Inv (bmS S nt k) sp nc (nt + 1) ne m := inv_addT h h4 hk (k := 0) (by omega)
theorem inv_bM {S K N I : St} {sp nc nt ne m : Nat} (h : Inv S sp nc nt ne m) (h4 : nt < 4) : ∀ k, k ≤ sp → Inv (bM S K N I m nc nt k).2.1 sp nc nt ne m := by
  intro k
  induction k with
  | zero => intro _; exact h
  | succ k ih => intro hk; exact inv_8 (inv_bmS (ih (by omega)) h4 (by omega))
set_option maxRecDepth 100000 in
set_option maxHeartbeats 4000000 in
theorem r_bestSpan4 {E : EE} {D : Nat} {S : St} {Ps : Nat → St} {A K T N I : St} {hh : Int64} {w : Wo} {sp nc nt ne m : Nat} (hI : Inv S sp nc nt ne m) (h4 : nt = 4) : Cd E mX4_bestSpan (ml E D S Ps A K T N I hh w) [.ref D] (some (.int (-1))) (ml E D S Ps A K T N (upd I 2 0) hh w) := by
  refine Cd.of RX4 rfl (by decide) [some (.ref D), none, none, none] (Nat.le_of_ble_eq_true rfl) rfl (fun Γ h f hmn => ?_)
  refine v_iconst (v := (-1)) h 0 1 dX4_bestSpan_0 rfl (by decide) ?_
  refine v_istore_n (i := 1) h 1 2 dX4_bestSpan_1 rfl rfl (by decide) (so1 rfl) ?_
  refine v_iconst (v := 0) h 2 3 dX4_bestSpan_2 rfl (by decide) ?_
  refine v_istore_n (i := 2) h 3 4 dX4_bestSpan_3 rfl rfl (by decide) (so2 rfl) ?_
  refine v_iconst (v := 0) h 4 5 dX4_bestSpan_4 rfl (by decide) ?_
  refine v_istore_n (i := 3) h 5 6 dX4_bestSpan_5 rfl rfl (by decide) (so3 rfl) ?_
  refine v_iload_n (i := 3) h 6 7 dX4_bestSpan_6 rfl rfl ld3 ?_
  refine v_aload_n (i := 0) h 7 8 dX4_bestSpan_7 rfl rfl ld0 ?_
  refine v_get h 8 11 dX4_bestSpan_8 rfl fo_X4_7 ml_ob rfl ?_
  refine v_iconst (v := nI 0) h 11 12 dX4_bestSpan_11 rfl (by decide) ?_
  refine v_ildSm h 12 13 _ dX4_bestSpan_12 rfl (by omega) ?_
  refine v_icmp_ge h 13 16 82 dX4_bestSpan_13 rfl (by decide) (fun h13 => absurd h13 (by rw [hI.1.1.1]; exact nI_ge (a := 0) hI.1.1.2.1 (by have := hI.1.1.2.2.1; omega))) (fun h13 => ?_)
  refine v_aload_n (i := 0) h 16 17 dX4_bestSpan_16 rfl rfl ld0 ?_
  refine v_get h 17 20 dX4_bestSpan_17 rfl fo_X4_7 ml_ob rfl ?_
  refine v_bipush (v := nI 8) h 20 22 dX4_bestSpan_20 rfl (by decide) ?_
  refine v_ildSm h 22 23 _ dX4_bestSpan_22 rfl (by omega) ?_
  refine v_iconst (v := 4) h 23 24 dX4_bestSpan_23 rfl (by decide) ?_
  refine v_icmp_ge h 24 27 82 dX4_bestSpan_24 rfl (by decide) (fun h24 => ?_) (fun h24 => absurd (by rw [hI.c8, h4]; decide) h24)
  refine v_aload_n (i := 0) h 82 83 dX4_bestSpan_82 rfl rfl ld0 ?_
  refine v_iload_n (i := 1) h 83 84 dX4_bestSpan_83 rfl rfl ld1 ?_
  refine v_callV1 h 84 87 dX4_bestSpan_84 rfl cb_X4_tells cv_X4_tells ml_ob lk_X4_39 (rok (by decide) (by decide)) ⟨rfl, rfl⟩ ⟨Nat.zero_le _, Nat.zero_le _⟩ (k_tells _) rfl rfl (Nat.le_of_ble_eq_true rfl) ?_
  exact v_iret h 87 f dX4_bestSpan_87 rfl (Nat.zero_le _) (Nat.zero_le _) rfl rfl

set_option maxRecDepth 100000 in
set_option maxHeartbeats 4000000 in
theorem r_bestSpan {E : EE} {D : Nat} {S : St} {Ps : Nat → St} {A K T N I : St} {hh : Int64} {w : Wo} {sp nc nt ne m : Nat} (hI : Inv S sp nc nt ne m) (hm : m < 2 ^ 30 - 5000) (h4 : nt < 4) : Cd E mX4_bestSpan (ml E D S Ps A K T N I hh w) [.ref D] (some (.int (bM S K N I m nc nt sp).1.1)) (ml E D (bM S K N I m nc nt sp).2.1 Ps A (bM S K N I m nc nt sp).2.2.1 T (bM S K N I m nc nt sp).2.2.2.1 (upd (bM S K N I m nc nt sp).2.2.2.2 2 0) hh w) := by
  refine Cd.of RX4 rfl (by decide) [some (.ref D), none, none, none] (Nat.le_of_ble_eq_true rfl) rfl (fun Γ h f hmn => ?_)
  have hsp := hI.1.1.2.2.1
  refine v_iconst (v := (-1)) h 0 1 dX4_bestSpan_0 rfl (by decide) ?_
  refine v_istore_n (i := 1) h 1 2 dX4_bestSpan_1 rfl rfl (by decide) (so1 rfl) ?_
  refine v_iconst (v := 0) h 2 3 dX4_bestSpan_2 rfl (by decide) ?_
  refine v_istore_n (i := 2) h 3 4 dX4_bestSpan_3 rfl rfl (by decide) (so2 rfl) ?_
  refine v_iconst (v := 0) h 4 5 dX4_bestSpan_4 rfl (by decide) ?_
  refine v_istore_n (i := 3) h 5 6 dX4_bestSpan_5 rfl rfl (by decide) (so3 rfl) ?_
  have loop6 : ∀ d j, j + d = sp → V E Γ 0 0 6 [some (.ref D), some (.int (bM S K N I m nc nt j).1.1), some (.int (bM S K N I m nc nt j).1.2), some (.int (nI j))] [] (ml E D (bM S K N I m nc nt j).2.1 Ps A (bM S K N I m nc nt j).2.2.1 T (bM S K N I m nc nt j).2.2.2.1 (bM S K N I m nc nt j).2.2.2.2 hh w) := by
    intro d
    induction d with
    | zero =>
      intro j hj
      obtain rfl : sp = j := by omega
      have hIp := inv_bM (K := K) (N := N) (I := I) hI h4 sp (Nat.le_refl _)
      refine v_iload_n (i := 3) h 6 7 dX4_bestSpan_6 rfl rfl ld3 ?_
      refine v_aload_n (i := 0) h 7 8 dX4_bestSpan_7 rfl rfl ld0 ?_
      refine v_get h 8 11 dX4_bestSpan_8 rfl fo_X4_7 ml_ob rfl ?_
      refine v_iconst (v := nI 0) h 11 12 dX4_bestSpan_11 rfl (by decide) ?_
      refine v_ildSm h 12 13 _ dX4_bestSpan_12 rfl (by omega) ?_
      refine v_icmp_ge h 13 16 82 dX4_bestSpan_13 rfl (by decide) (fun h13 => ?_) (fun h13 => absurd (by rw [hIp.1.1.1]; exact nI_le (Nat.le_refl _) (by omega)) h13)
      refine v_aload_n (i := 0) h 82 83 dX4_bestSpan_82 rfl rfl ld0 ?_
      refine v_iload_n (i := 1) h 83 84 dX4_bestSpan_83 rfl rfl ld1 ?_
      refine v_callV1 h 84 87 dX4_bestSpan_84 rfl cb_X4_tells cv_X4_tells ml_ob lk_X4_39 (rok (by decide) (by decide)) ⟨rfl, rfl⟩ ⟨Nat.zero_le _, Nat.zero_le _⟩ (k_tells _) rfl rfl (Nat.le_of_ble_eq_true rfl) ?_
      exact v_iret h 87 f dX4_bestSpan_87 rfl (Nat.zero_le _) (Nat.zero_le _) rfl rfl
    | succ d ih =>
      intro j hj
      have hIp := inv_bM (K := K) (N := N) (I := I) hI h4 j (by omega)
      obtain ⟨p, hp⟩ : ∃ p, p = bM S K N I m nc nt j := ⟨_, rfl⟩
      rw [← hp] at hIp ⊢
      refine v_iload_n (i := 3) h 6 7 dX4_bestSpan_6 rfl rfl ld3 ?_
      refine v_aload_n (i := 0) h 7 8 dX4_bestSpan_7 rfl rfl ld0 ?_
      refine v_get h 8 11 dX4_bestSpan_8 rfl fo_X4_7 ml_ob rfl ?_
      refine v_iconst (v := nI 0) h 11 12 dX4_bestSpan_11 rfl (by decide) ?_
      refine v_ildSm h 12 13 _ dX4_bestSpan_12 rfl (by omega) ?_
      refine v_icmp_ge h 13 16 82 dX4_bestSpan_13 rfl (by decide) (fun h13 => absurd h13 (by rw [hIp.1.1.1]; exact nI_ge (by omega) (by omega))) (fun h13 => ?_)
      refine v_aload_n (i := 0) h 16 17 dX4_bestSpan_16 rfl rfl ld0 ?_
      refine v_get h 17 20 dX4_bestSpan_17 rfl fo_X4_7 ml_ob rfl ?_
      refine v_bipush (v := nI 8) h 20 22 dX4_bestSpan_20 rfl (by decide) ?_
      refine v_ildSm h 22 23 _ dX4_bestSpan_22 rfl (by omega) ?_
      refine v_iconst (v := 4) h 23 24 dX4_bestSpan_23 rfl (by decide) ?_
      refine v_icmp_ge h 24 27 82 dX4_bestSpan_24 rfl (by decide) (fun h24 => absurd h24 (by rw [hIp.c8]; exact nI_ge (b := 4) (by omega) (by decide))) (fun h24 => ?_)
      refine v_aload_n (i := 0) h 27 28 dX4_bestSpan_27 rfl rfl ld0 ?_
      refine v_iload_n (i := 3) h 28 29 dX4_bestSpan_28 rfl rfl ld3 ?_
      refine v_iconst (v := 0) h 29 30 dX4_bestSpan_29 rfl (by decide) ?_
      refine v_callV0 h 30 33 dX4_bestSpan_30 rfl cb_X4_addsTeam cv_X4_addsTeam ml_ob lk_X4_109 (rok (by decide) (by decide)) ⟨rfl, rfl⟩ ⟨Nat.zero_le _, Nat.zero_le _⟩ (k_addsTeam hIp.c8 h4 _ _) rfl rfl (Nat.le_of_ble_eq_true rfl) ?_
      refine v_aload_n (i := 0) h 33 34 dX4_bestSpan_33 rfl rfl ld0 ?_
      refine v_callV0 h 34 37 dX4_bestSpan_34 rfl cb_X4_foresees cv_X4_foresees ml_ob lk_X4_119 (rok (by decide) (by decide)) ⟨rfl, rfl⟩ ⟨Nat.zero_le _, Nat.zero_le _⟩ (k_foresees (inv_bmS hIp h4 (k := j) (by omega)) hm) rfl rfl (Nat.le_of_ble_eq_true rfl) ?_
      refine v_aload_n (i := 0) h 37 38 dX4_bestSpan_37 rfl rfl ld0 ?_
      refine v_get h 38 41 dX4_bestSpan_38 rfl fo_X4_7 ml_ob rfl ?_
      refine v_bipush (v := nI 8) h 41 43 dX4_bestSpan_41 rfl (by decide) ?_
      refine v_dup2 h 43 44 dX4_bestSpan_43 rfl rfl rfl ?_
      refine v_ildSm h 44 45 _ dX4_bestSpan_44 rfl (by omega) ?_
      rw [standS_ne (by omega), upd_self]
      refine v_iconst (v := 1) h 45 46 dX4_bestSpan_45 rfl (by decide) ?_
      refine v_isub h 46 47 dX4_bestSpan_46 rfl ?_
      rw [nI_pred]
      refine v_istSm h 47 48 _ dX4_bestSpan_47 rfl (by omega) ?_
      refine v_aload_n (i := 0) h 48 49 dX4_bestSpan_48 rfl rfl ld0 ?_
      refine v_get h 49 52 dX4_bestSpan_49 rfl fo_X4_82 ml_ob rfl ?_
      rw [upd_self]
      refine v_iconst (v := (-1)) h 52 53 dX4_bestSpan_52 rfl (by decide) ?_
      refine v_icmp_eq h 53 56 76 dX4_bestSpan_53 rfl (by decide) (fun h53 => ?_) (fun h53 => ?_)
      · refine v_iinc (i := 3) h 76 79 dX4_bestSpan_76 rfl ld3 (by first | exact iinc1 _ | rfl) (by decide) (so3 rfl) ?_
        refine v_goto h 79 6 dX4_bestSpan_79 (by decide) ?_
        have q := ih (j + 1) (by omega)
        rw [bM_s, ← hp] at q
        unfold bmP bmR bmS at q
        rw [if_pos h53] at q
        exact V.weakT q (And.intro rfl (And.intro rfl (And.intro rfl (And.intro rfl trivial))))
      · refine v_iload_n (i := 1) h 56 57 dX4_bestSpan_56 rfl rfl ld1 ?_
        refine v_iconst (v := (-1)) h 57 58 dX4_bestSpan_57 rfl (by decide) ?_
        refine v_icmp_eq h 58 61 69 dX4_bestSpan_58 rfl (by decide) (fun h58 => ?_) (fun h58 => ?_)
        · refine v_iload_n (i := 3) h 69 70 dX4_bestSpan_69 rfl rfl ld3 ?_
          refine v_istore_n (i := 1) h 70 71 dX4_bestSpan_70 rfl rfl (by decide) (so1 rfl) ?_
          refine v_aload_n (i := 0) h 71 72 dX4_bestSpan_71 rfl rfl ld0 ?_
          refine v_get h 72 75 dX4_bestSpan_72 rfl fo_X4_82 ml_ob rfl ?_
          rw [upd_self]
          refine v_istore_n (i := 2) h 75 76 dX4_bestSpan_75 rfl rfl (by decide) (so2 rfl) ?_
          refine v_iinc (i := 3) h 76 79 dX4_bestSpan_76 rfl ld3 (by first | exact iinc1 _ | rfl) (by decide) (so3 rfl) ?_
          refine v_goto h 79 6 dX4_bestSpan_79 (by decide) ?_
          have q := ih (j + 1) (by omega)
          rw [bM_s, ← hp] at q
          unfold bmP bmR bmS at q
          rw [if_neg h53, if_pos h58] at q
          exact V.weakT q (And.intro rfl (And.intro rfl (And.intro rfl (And.intro rfl trivial))))
        · refine v_aload_n (i := 0) h 61 62 dX4_bestSpan_61 rfl rfl ld0 ?_
          refine v_get h 62 65 dX4_bestSpan_62 rfl fo_X4_82 ml_ob rfl ?_
          rw [upd_self]
          refine v_iload_n (i := 2) h 65 66 dX4_bestSpan_65 rfl rfl ld2 ?_
          refine v_icmp_ge h 66 69 76 dX4_bestSpan_66 rfl (by decide) (fun h66 => ?_) (fun h66 => ?_)
          · refine v_iinc (i := 3) h 76 79 dX4_bestSpan_76 rfl ld3 (by first | exact iinc1 _ | rfl) (by decide) (so3 rfl) ?_
            refine v_goto h 79 6 dX4_bestSpan_79 (by decide) ?_
            have q := ih (j + 1) (by omega)
            rw [bM_s, ← hp] at q
            unfold bmP bmR bmS at q
            rw [if_neg h53, if_neg h58, if_pos h66] at q
            exact V.weakT q (And.intro rfl (And.intro rfl (And.intro rfl (And.intro rfl trivial))))
          · refine v_iload_n (i := 3) h 69 70 dX4_bestSpan_69 rfl rfl ld3 ?_
            refine v_istore_n (i := 1) h 70 71 dX4_bestSpan_70 rfl rfl (by decide) (so1 rfl) ?_
            refine v_aload_n (i := 0) h 71 72 dX4_bestSpan_71 rfl rfl ld0 ?_
            refine v_get h 72 75 dX4_bestSpan_72 rfl fo_X4_82 ml_ob rfl ?_
            rw [upd_self]
            refine v_istore_n (i := 2) h 75 76 dX4_bestSpan_75 rfl rfl (by decide) (so2 rfl) ?_
            refine v_iinc (i := 3) h 76 79 dX4_bestSpan_76 rfl ld3 (by first | exact iinc1 _ | rfl) (by decide) (so3 rfl) ?_
            refine v_goto h 79 6 dX4_bestSpan_79 (by decide) ?_
            have q := ih (j + 1) (by omega)
            rw [bM_s, ← hp] at q
            unfold bmP bmR bmS at q
            rw [if_neg h53, if_neg h58, if_neg h66] at q
            exact V.weakT q (And.intro rfl (And.intro rfl (And.intro rfl (And.intro rfl trivial))))
  exact V.weakT (loop6 sp 0 (by omega)) (And.intro rfl (And.intro rfl (And.intro rfl (And.intro rfl trivial))))

theorem fMix_add (f : Nat → Int32) (a : Nat) (h : Int64) : ∀ n, fMix f (a + n) h = fMix (fun j => f (a + j)) n (fMix f a h) := by
  intro n
  induction n with
  | zero => rfl
  | succ n ih =>
    show mixL (fMix f (a + n) h) (f (a + n)) = mixL (fMix (fun j => f (a + j)) n (fMix f a h)) (f (a + n))
    rw [ih]
theorem tm_flat (S : St) (h : Int64) : ∀ t, fMix (fun j => S (125 + j)) (8 * t) h = tmMix S t h := by
  intro t
  induction t with
  | zero => rfl
  | succ t ih =>
    rw [show 8 * (t + 1) = 8 * t + 8 by omega, fMix_add, ih]
    show fMix (fun j => S (125 + (8 * t + j))) 8 (tmMix S t h) = fMix (fun k => S (125 + 8 * t + k)) 8 (tmMix S t h)
    rw [show (fun j => S (125 + (8 * t + j))) = (fun k => S (125 + 8 * t + k)) from funext fun j => by rw [Nat.add_assoc]]
set_option maxRecDepth 100000 in
set_option maxHeartbeats 4000000 in
theorem k_mixM {E : EE} {D : Nat} {S : St} {Ps : Nat → St} {A K T N I : St} {hh : Int64} {w : Wo} (v : Int32) : Cd E mX4_mix (ml E D S Ps A K T N I hh w) [.ref D, .int v] (none) (ml E D S Ps A K T N I (mixL hh v) w) := by
  refine Cd.of RX4 rfl (by decide) [some (.ref D), some (.int v)] (Nat.le_of_ble_eq_true rfl) rfl (fun Γ h f hmn => ?_)
  refine v_aload_n (i := 0) h 0 1 dX4_mix_0 rfl rfl ld0 ?_
  refine v_ldc2 h 1 4 dX4_mix_1 rfl kl_X4_153 ?_
  refine v_aload_n (i := 0) h 4 5 dX4_mix_4 rfl rfl ld0 ?_
  refine v_get h 5 8 dX4_mix_5 rfl fo_X4_155 ml_ob rfl ?_
  refine v_lmul h 8 9 dX4_mix_8 rfl ?_
  refine v_iload_n (i := 1) h 9 10 dX4_mix_9 rfl rfl ld1 ?_
  refine v_i2l h 10 11 dX4_mix_10 rfl rfl ?_
  refine v_ladd h 11 12 dX4_mix_11 rfl ?_
  refine v_putM11 h 12 15 dX4_mix_12 rfl fw_X4_155 ?_
  exact v_ret h 15 f dX4_mix_15 rfl (Nat.zero_le _) (Nat.zero_le _) rfl rfl

set_option maxRecDepth 100000 in
set_option maxHeartbeats 4000000 in
theorem r_digest {E : EE} {D : Nat} {S : St} {Ps : Nat → St} {A K T N I : St} {hh : Int64} {w : Wo} {sp nc nt ne m : Nat} (hI : Inv S sp nc nt ne m) (hm : m < 2 ^ 30 - 5000) : Cd E mX4_digest (ml E D S Ps A K T N I hh w) [.ref D] (some (.long (dgL S (runS nc nt 1000 S m).1 sp nc nt ne (I 1) (outI (runS nc nt 1000 S m)) (I 0)))) (ml E D S Ps A S T (cpA N (fun c => (runS nc nt 1000 S m).1 (13 + 8 * c + 6)) nc) (upd (upd I 2 0) 3 (outI (runS nc nt 1000 S m))) (dgL S (runS nc nt 1000 S m).1 sp nc nt ne (I 1) (outI (runS nc nt 1000 S m)) (I 0)) w) := by
  refine Cd.of RX4 rfl (by decide) [some (.ref D), none, none] (Nat.le_of_ble_eq_true rfl) rfl (fun Γ h f hmn => ?_)
  refine v_aload_n (i := 0) h 0 1 dX4_digest_0 rfl rfl ld0 ?_
  refine v_iconst (v := 0) h 1 2 dX4_digest_1 rfl (by decide) ?_
  refine v_putM7 h 2 5 dX4_digest_2 rfl fw_X4_28 ?_
  refine v_aload_n (i := 0) h 5 6 dX4_digest_5 rfl rfl ld0 ?_
  refine v_callV0 h 6 9 dX4_digest_6 rfl cb_X4_foresees cv_X4_foresees ml_ob lk_X4_119 (rok (by decide) (by decide)) ⟨rfl, rfl⟩ ⟨Nat.zero_le _, Nat.zero_le _⟩ (k_foresees hI hm) rfl rfl (Nat.le_of_ble_eq_true rfl) ?_
  have hsp := hI.1.1.2.2.1
  have hsp1 := hI.1.1.2.1
  have hn14 := hI.n14
  have hn4 := hI.n4
  have hnl := hI.nle
  obtain ⟨N1, hN⟩ : ∃ z, z = cpA N (fun c => (runS nc nt 1000 S m).1 (13 + 8 * c + 6)) nc := ⟨_, rfl⟩
  obtain ⟨I1, hI1⟩ : ∃ z, z = upd (upd I 2 0) 3 (outI (runS nc nt 1000 S m)) := ⟨_, rfl⟩
  obtain ⟨T1, hT1⟩ : ∃ z, z = (runS nc nt 1000 S m).1 := ⟨_, rfl⟩
  obtain ⟨v, hv⟩ : ∃ z, z = outI (runS nc nt 1000 S m) := ⟨_, rfl⟩
  have hN1 : ∀ c, c < nc → N1 c = T1 (13 + 8 * c + 6) := fun c hc => by
    rw [hN, hT1]
    exact if_pos hc
  have hI13 : I1 3 = v := by rw [hI1, upd_self, hv]
  have hI10 : I1 0 = I 0 := by rw [hI1, upd_ne _ _ (by omega), upd_ne _ _ (by omega)]
  have hI11 : I1 1 = I 1 := by rw [hI1, upd_ne _ _ (by omega), upd_ne _ _ (by omega)]
  rw [← hN, ← hI1]
  rw [← hN, ← hI1, ← hT1, ← hv] at f
  clear hN hI1 hT1 hv
  unfold dgL at f
  obtain ⟨H1, hH1⟩ : ∃ z, z = mixL 3517 (I 1) := ⟨_, rfl⟩
  obtain ⟨H2, hH2⟩ : ∃ z, z = fMix (fun j => lnFact S nc j) 12 H1 := ⟨_, rfl⟩
  obtain ⟨H3, hH3⟩ : ∃ z, z = fMix (fun j => S (1 + j)) (sp - 1) H2 := ⟨_, rfl⟩
  obtain ⟨H4, hH4⟩ : ∃ z, z = chMix S T1 nc H3 := ⟨_, rfl⟩
  obtain ⟨H5, hH5⟩ : ∃ z, z = tmMix S nt H4 := ⟨_, rfl⟩
  obtain ⟨H6, hH6⟩ : ∃ z, z = fMix (fun j => S (157 + j)) ne H5 := ⟨_, rfl⟩
  rw [← hH1, ← hH2, ← hH3, ← hH4, ← hH5, ← hH6] at f
  have k200 : ∀ i1 i2, V E Γ 0 0 200 [some (.ref D), i1, i2] [] (ml E D S Ps A S T N1 I1 H6 w) := by
    intro i1 i2
    refine v_aload_n (i := 0) h 200 201 dX4_digest_200 rfl rfl ld0 ?_
    refine v_aload_n (i := 0) h 201 202 dX4_digest_201 rfl rfl ld0 ?_
    refine v_get h 202 205 dX4_digest_202 rfl fo_X4_82 ml_ob rfl ?_
    rw [hI13]
    refine v_callV0 h 205 208 dX4_digest_205 rfl cb_X4_mix cv_X4_mix ml_ob lk_X4_161 (rok (by decide) (by decide)) ⟨rfl, rfl⟩ ⟨Nat.zero_le _, Nat.zero_le _⟩ (k_mixM _) rfl rfl (Nat.le_of_ble_eq_true rfl) ?_
    refine v_aload_n (i := 0) h 208 209 dX4_digest_208 rfl rfl ld0 ?_
    refine v_aload_n (i := 0) h 209 210 dX4_digest_209 rfl rfl ld0 ?_
    refine v_get h 210 213 dX4_digest_210 rfl fo_X4_36 ml_ob rfl ?_
    rw [hI10]
    refine v_callV0 h 213 216 dX4_digest_213 rfl cb_X4_mix cv_X4_mix ml_ob lk_X4_161 (rok (by decide) (by decide)) ⟨rfl, rfl⟩ ⟨Nat.zero_le _, Nat.zero_le _⟩ (k_mixM _) rfl rfl (Nat.le_of_ble_eq_true rfl) ?_
    refine v_aload_n (i := 0) h 216 217 dX4_digest_216 rfl rfl ld0 ?_
    refine v_get h 217 220 dX4_digest_217 rfl fo_X4_155 ml_ob rfl ?_
    exact v_lret h 220 f dX4_digest_220 rfl (Nat.zero_le _) (Nat.zero_le _) rfl rfl
  have k167 : ∀ i1 i2, V E Γ 0 0 167 [some (.ref D), i1, i2] [] (ml E D S Ps A S T N1 I1 H5 w) := by
    intro i1 i2
    refine v_iconst (v := 0) h 167 168 dX4_digest_167 rfl (by decide) ?_
    refine v_istore_n (i := 1) h 168 169 dX4_digest_168 rfl rfl (by decide) (so1 rfl) ?_
    have loop169 : ∀ d j, j + d = ne → V E Γ 0 0 169 [some (.ref D), some (.int (nI j)), none] [] (ml E D S Ps A S T N1 I1 (fMix (fun j => S (157 + j)) j H5) w) := by
      intro d
      induction d with
      | zero =>
        intro j hj
        obtain rfl : ne = j := by omega
        refine v_iload_n (i := 1) h 169 170 dX4_digest_169 rfl rfl ld1 ?_
        refine v_aload_n (i := 0) h 170 171 dX4_digest_170 rfl rfl ld0 ?_
        refine v_get h 171 174 dX4_digest_171 rfl fo_X4_7 ml_ob rfl ?_
        refine v_bipush (v := nI 12) h 174 176 dX4_digest_174 rfl (by decide) ?_
        refine v_ildSm h 176 177 _ dX4_digest_176 rfl (by omega) ?_
        refine v_icmp_ge h 177 180 200 dX4_digest_177 rfl (by decide) (fun h177 => ?_) (fun h177 => absurd (by rw [hI.c12]; exact nI_le (Nat.le_refl _) (by omega)) h177)
        rw [← hH6]
        exact k200 _ _
      | succ d ih =>
        intro j hj
        refine v_iload_n (i := 1) h 169 170 dX4_digest_169 rfl rfl ld1 ?_
        refine v_aload_n (i := 0) h 170 171 dX4_digest_170 rfl rfl ld0 ?_
        refine v_get h 171 174 dX4_digest_171 rfl fo_X4_7 ml_ob rfl ?_
        refine v_bipush (v := nI 12) h 174 176 dX4_digest_174 rfl (by decide) ?_
        refine v_ildSm h 176 177 _ dX4_digest_176 rfl (by omega) ?_
        refine v_icmp_ge h 177 180 200 dX4_digest_177 rfl (by decide) (fun h177 => absurd h177 (by rw [hI.c12]; exact nI_ge (by omega) (by omega))) (fun h177 => ?_)
        refine v_aload_n (i := 0) h 180 181 dX4_digest_180 rfl rfl ld0 ?_
        refine v_aload_n (i := 0) h 181 182 dX4_digest_181 rfl rfl ld0 ?_
        refine v_get h 182 185 dX4_digest_182 rfl fo_X4_7 ml_ob rfl ?_
        refine v_sipush (v := nI 157) h 185 188 dX4_digest_185 rfl (by decide) ?_
        refine v_iload_n (i := 1) h 188 189 dX4_digest_188 rfl rfl ld1 ?_
        refine v_iadd h 189 190 dX4_digest_189 rfl ?_
        rw [nI_add]
        refine v_ildSm h 190 191 _ dX4_digest_190 rfl (by omega) ?_
        refine v_callV0 h 191 194 dX4_digest_191 rfl cb_X4_mix cv_X4_mix ml_ob lk_X4_161 (rok (by decide) (by decide)) ⟨rfl, rfl⟩ ⟨Nat.zero_le _, Nat.zero_le _⟩ (k_mixM _) rfl rfl (Nat.le_of_ble_eq_true rfl) ?_
        refine v_iinc (i := 1) h 194 197 dX4_digest_194 rfl ld1 (by first | exact iinc1 _ | rfl) (by decide) (so1 rfl) ?_
        refine v_goto h 197 169 dX4_digest_197 (by decide) ?_
        exact V.weakT (ih (j + 1) (by omega)) (And.intro rfl (And.intro rfl trivial))
    exact V.weakT (loop169 ne 0 (by omega)) (And.intro rfl (And.intro rfl trivial))
  have k132 : ∀ i1 i2, V E Γ 0 0 132 [some (.ref D), i1, i2] [] (ml E D S Ps A S T N1 I1 H4 w) := by
    intro i1 i2
    refine v_iconst (v := 0) h 132 133 dX4_digest_132 rfl (by decide) ?_
    refine v_istore_n (i := 1) h 133 134 dX4_digest_133 rfl rfl (by decide) (so1 rfl) ?_
    have loop134 : ∀ d j, j + d = (8 * nt) → V E Γ 0 0 134 [some (.ref D), some (.int (nI j)), none] [] (ml E D S Ps A S T N1 I1 (fMix (fun j => S (125 + j)) j H4) w) := by
      intro d
      induction d with
      | zero =>
        intro j hj
        obtain rfl : j = (8 * nt) := by omega
        refine v_iload_n (i := 1) h 134 135 dX4_digest_134 rfl rfl ld1 ?_
        refine v_bipush (v := nI 8) h 135 137 dX4_digest_135 rfl (by decide) ?_
        refine v_aload_n (i := 0) h 137 138 dX4_digest_137 rfl rfl ld0 ?_
        refine v_get h 138 141 dX4_digest_138 rfl fo_X4_7 ml_ob rfl ?_
        refine v_bipush (v := nI 8) h 141 143 dX4_digest_141 rfl (by decide) ?_
        refine v_ildSm h 143 144 _ dX4_digest_143 rfl (by omega) ?_
        rw [hI.c8]
        refine v_imul h 144 145 dX4_digest_144 rfl ?_
        rw [pk_mul]
        refine v_icmp_ge h 145 148 167 dX4_digest_145 rfl (by decide) (fun h145 => ?_) (fun h145 => absurd (nI_le (Nat.le_refl _) (by omega)) h145)
        rw [tm_flat, ← hH5]
        exact k167 _ _
      | succ d ih =>
        intro j hj
        refine v_iload_n (i := 1) h 134 135 dX4_digest_134 rfl rfl ld1 ?_
        refine v_bipush (v := nI 8) h 135 137 dX4_digest_135 rfl (by decide) ?_
        refine v_aload_n (i := 0) h 137 138 dX4_digest_137 rfl rfl ld0 ?_
        refine v_get h 138 141 dX4_digest_138 rfl fo_X4_7 ml_ob rfl ?_
        refine v_bipush (v := nI 8) h 141 143 dX4_digest_141 rfl (by decide) ?_
        refine v_ildSm h 143 144 _ dX4_digest_143 rfl (by omega) ?_
        rw [hI.c8]
        refine v_imul h 144 145 dX4_digest_144 rfl ?_
        rw [pk_mul]
        refine v_icmp_ge h 145 148 167 dX4_digest_145 rfl (by decide) (fun h145 => absurd h145 (nI_ge (by omega) (by omega))) (fun h145 => ?_)
        refine v_aload_n (i := 0) h 148 149 dX4_digest_148 rfl rfl ld0 ?_
        refine v_aload_n (i := 0) h 149 150 dX4_digest_149 rfl rfl ld0 ?_
        refine v_get h 150 153 dX4_digest_150 rfl fo_X4_7 ml_ob rfl ?_
        refine v_bipush (v := nI 125) h 153 155 dX4_digest_153 rfl (by decide) ?_
        refine v_iload_n (i := 1) h 155 156 dX4_digest_155 rfl rfl ld1 ?_
        refine v_iadd h 156 157 dX4_digest_156 rfl ?_
        rw [nI_add]
        refine v_ildSm h 157 158 _ dX4_digest_157 rfl (by omega) ?_
        refine v_callV0 h 158 161 dX4_digest_158 rfl cb_X4_mix cv_X4_mix ml_ob lk_X4_161 (rok (by decide) (by decide)) ⟨rfl, rfl⟩ ⟨Nat.zero_le _, Nat.zero_le _⟩ (k_mixM _) rfl rfl (Nat.le_of_ble_eq_true rfl) ?_
        refine v_iinc (i := 1) h 161 164 dX4_digest_161 rfl ld1 (by first | exact iinc1 _ | rfl) (by decide) (so1 rfl) ?_
        refine v_goto h 164 134 dX4_digest_164 (by decide) ?_
        exact V.weakT (ih (j + 1) (by omega)) (And.intro rfl (And.intro rfl trivial))
    exact V.weakT (loop134 (8 * nt) 0 (by omega)) (And.intro rfl (And.intro rfl trivial))
  have k79 : ∀ i1 i2, V E Γ 0 0 79 [some (.ref D), i1, i2] [] (ml E D S Ps A S T N1 I1 H3 w) := by
    intro i1 i2
    refine v_iconst (v := 0) h 79 80 dX4_digest_79 rfl (by decide) ?_
    refine v_istore_n (i := 1) h 80 81 dX4_digest_80 rfl rfl (by decide) (so1 rfl) ?_
    have loop81 : ∀ d j, j + d = nc → V E Γ 0 0 81 [some (.ref D), some (.int (nI j)), none] [] (ml E D S Ps A S T N1 I1 (chMix S T1 j H3) w) := by
      intro d
      induction d with
      | zero =>
        intro j hj
        obtain rfl : nc = j := by omega
        refine v_iload_n (i := 1) h 81 82 dX4_digest_81 rfl rfl ld1 ?_
        refine v_aload_n (i := 0) h 82 83 dX4_digest_82 rfl rfl ld0 ?_
        refine v_get h 83 86 dX4_digest_83 rfl fo_X4_7 ml_ob rfl ?_
        refine v_bipush (v := nI 7) h 86 88 dX4_digest_86 rfl (by decide) ?_
        refine v_ildSm h 88 89 _ dX4_digest_88 rfl (by omega) ?_
        refine v_icmp_ge h 89 92 132 dX4_digest_89 rfl (by decide) (fun h89 => ?_) (fun h89 => absurd (by rw [hI.c7]; exact nI_le (Nat.le_refl _) (by omega)) h89)
        rw [← hH4]
        exact V.weakT (k132 (some (.int (nI nc))) none) (And.intro rfl (And.intro rfl trivial))
      | succ d ih =>
        intro j hj
        refine v_iload_n (i := 1) h 81 82 dX4_digest_81 rfl rfl ld1 ?_
        refine v_aload_n (i := 0) h 82 83 dX4_digest_82 rfl rfl ld0 ?_
        refine v_get h 83 86 dX4_digest_83 rfl fo_X4_7 ml_ob rfl ?_
        refine v_bipush (v := nI 7) h 86 88 dX4_digest_86 rfl (by decide) ?_
        refine v_ildSm h 88 89 _ dX4_digest_88 rfl (by omega) ?_
        refine v_icmp_ge h 89 92 132 dX4_digest_89 rfl (by decide) (fun h89 => absurd h89 (by rw [hI.c7]; exact nI_ge (by omega) (by omega))) (fun h89 => ?_)
        refine v_iconst (v := 0) h 92 93 dX4_digest_92 rfl (by decide) ?_
        refine v_istore_n (i := 2) h 93 94 dX4_digest_93 rfl rfl (by decide) (so2 rfl) ?_
        have loop94 : ∀ di i, i + di = 9 → V E Γ 0 0 94 [some (.ref D), some (.int (nI j)), some (.int (nI i))] [] (ml E D S Ps A S T N1 I1 (fMix (fun k => chFact S j k) i (chMix S T1 j H3)) w) := by
          intro di
          induction di with
          | zero =>
            intro i hi
            obtain rfl : i = 9 := by omega
            refine v_iload_n (i := 2) h 94 95 dX4_digest_94 rfl rfl ld2 ?_
            refine v_bipush (v := nI 9) h 95 97 dX4_digest_95 rfl (by decide) ?_
            refine v_icmp_ge h 97 100 116 dX4_digest_97 rfl (by decide) (fun h97 => ?_) (fun h97 => absurd (nI_le (Nat.le_refl _) (by decide)) h97)
            refine v_aload_n (i := 0) h 116 117 dX4_digest_116 rfl rfl ld0 ?_
            refine v_aload_n (i := 0) h 117 118 dX4_digest_117 rfl rfl ld0 ?_
            refine v_get h 118 121 dX4_digest_118 rfl fo_X4_25 ml_ob rfl ?_
            refine v_iload_n (i := 1) h 121 122 dX4_digest_121 rfl rfl ld1 ?_
            refine v_ildNm h 122 123 _ dX4_digest_122 rfl (by omega) ?_
            rw [hN1 j (by omega)]
            refine v_callV0 h 123 126 dX4_digest_123 rfl cb_X4_mix cv_X4_mix ml_ob lk_X4_161 (rok (by decide) (by decide)) ⟨rfl, rfl⟩ ⟨Nat.zero_le _, Nat.zero_le _⟩ (k_mixM _) rfl rfl (Nat.le_of_ble_eq_true rfl) ?_
            refine v_iinc (i := 1) h 126 129 dX4_digest_126 rfl ld1 (by first | exact iinc1 _ | rfl) (by decide) (so1 rfl) ?_
            refine v_goto h 129 81 dX4_digest_129 (by decide) ?_
            exact V.weakT (ih (j + 1) (by omega)) (And.intro rfl (And.intro rfl trivial))
          | succ di ihi =>
            intro i hi
            refine v_iload_n (i := 2) h 94 95 dX4_digest_94 rfl rfl ld2 ?_
            refine v_bipush (v := nI 9) h 95 97 dX4_digest_95 rfl (by decide) ?_
            refine v_icmp_ge h 97 100 116 dX4_digest_97 rfl (by decide) (fun h97 => absurd h97 (nI_ge (a := i) (b := 9) (by omega) (by decide))) (fun h97 => ?_)
            refine v_aload_n (i := 0) h 100 101 dX4_digest_100 rfl rfl ld0 ?_
            refine v_aload_n (i := 0) h 101 102 dX4_digest_101 rfl rfl ld0 ?_
            refine v_iload_n (i := 1) h 102 103 dX4_digest_102 rfl rfl ld1 ?_
            refine v_iload_n (i := 2) h 103 104 dX4_digest_103 rfl rfl ld2 ?_
            refine v_callV1 h 104 107 dX4_digest_104 rfl cb_X4_chairOf cv_X4_chairOf ml_ob lk_X4_122 (rok (by decide) (by decide)) ⟨rfl, rfl⟩ ⟨Nat.zero_le _, Nat.zero_le _⟩ (k_chairOf (c := j) (k := i) (by omega) (by omega) (hI.chz j (by omega))) rfl rfl (Nat.le_of_ble_eq_true rfl) ?_
            refine v_callV0 h 107 110 dX4_digest_107 rfl cb_X4_mix cv_X4_mix ml_ob lk_X4_161 (rok (by decide) (by decide)) ⟨rfl, rfl⟩ ⟨Nat.zero_le _, Nat.zero_le _⟩ (k_mixM _) rfl rfl (Nat.le_of_ble_eq_true rfl) ?_
            refine v_iinc (i := 2) h 110 113 dX4_digest_110 rfl ld2 (by first | exact iinc1 _ | rfl) (by decide) (so2 rfl) ?_
            refine v_goto h 113 94 dX4_digest_113 (by decide) ?_
            exact V.weakT (ihi (i + 1) (by omega)) (And.intro rfl (And.intro rfl (And.intro rfl trivial)))
        exact V.weakT (loop94 9 0 (by omega)) (And.intro rfl (And.intro rfl (And.intro rfl trivial)))
    exact V.weakT (loop81 nc 0 (by omega)) (And.intro rfl (And.intro rfl trivial))
  have k47 : ∀ i1 i2, V E Γ 0 0 47 [some (.ref D), i1, i2] [] (ml E D S Ps A S T N1 I1 H2 w) := by
    intro i1 i2
    refine v_iconst (v := 0) h 47 48 dX4_digest_47 rfl (by decide) ?_
    refine v_istore_n (i := 1) h 48 49 dX4_digest_48 rfl rfl (by decide) (so1 rfl) ?_
    have loop49 : ∀ d j, j + d = (sp - 1) → V E Γ 0 0 49 [some (.ref D), some (.int (nI j)), none] [] (ml E D S Ps A S T N1 I1 (fMix (fun j => S (1 + j)) j H2) w) := by
      intro d
      induction d with
      | zero =>
        intro j hj
        obtain rfl : j = (sp - 1) := by omega
        refine v_iload_n (i := 1) h 49 50 dX4_digest_49 rfl rfl ld1 ?_
        refine v_aload_n (i := 0) h 50 51 dX4_digest_50 rfl rfl ld0 ?_
        refine v_get h 51 54 dX4_digest_51 rfl fo_X4_7 ml_ob rfl ?_
        refine v_iconst (v := nI 0) h 54 55 dX4_digest_54 rfl (by decide) ?_
        refine v_ildSm h 55 56 _ dX4_digest_55 rfl (by omega) ?_
        rw [hI.1.1.1]
        refine v_iconst (v := nI 1) h 56 57 dX4_digest_56 rfl (by decide) ?_
        refine v_isub h 57 58 dX4_digest_57 rfl ?_
        rw [pk_sub (a := sp) (b := 1) (by omega)]
        refine v_icmp_ge h 58 61 79 dX4_digest_58 rfl (by decide) (fun h58 => ?_) (fun h58 => absurd (nI_le (Nat.le_refl _) (by omega)) h58)
        rw [← hH3]
        exact k79 _ _
      | succ d ih =>
        intro j hj
        refine v_iload_n (i := 1) h 49 50 dX4_digest_49 rfl rfl ld1 ?_
        refine v_aload_n (i := 0) h 50 51 dX4_digest_50 rfl rfl ld0 ?_
        refine v_get h 51 54 dX4_digest_51 rfl fo_X4_7 ml_ob rfl ?_
        refine v_iconst (v := nI 0) h 54 55 dX4_digest_54 rfl (by decide) ?_
        refine v_ildSm h 55 56 _ dX4_digest_55 rfl (by omega) ?_
        rw [hI.1.1.1]
        refine v_iconst (v := nI 1) h 56 57 dX4_digest_56 rfl (by decide) ?_
        refine v_isub h 57 58 dX4_digest_57 rfl ?_
        rw [pk_sub (a := sp) (b := 1) (by omega)]
        refine v_icmp_ge h 58 61 79 dX4_digest_58 rfl (by decide) (fun h58 => absurd h58 (nI_ge (by omega) (by omega))) (fun h58 => ?_)
        refine v_aload_n (i := 0) h 61 62 dX4_digest_61 rfl rfl ld0 ?_
        refine v_aload_n (i := 0) h 62 63 dX4_digest_62 rfl rfl ld0 ?_
        refine v_get h 63 66 dX4_digest_63 rfl fo_X4_7 ml_ob rfl ?_
        refine v_iconst (v := nI 1) h 66 67 dX4_digest_66 rfl (by decide) ?_
        refine v_iload_n (i := 1) h 67 68 dX4_digest_67 rfl rfl ld1 ?_
        refine v_iadd h 68 69 dX4_digest_68 rfl ?_
        rw [nI_add]
        refine v_ildSm h 69 70 _ dX4_digest_69 rfl (by omega) ?_
        refine v_callV0 h 70 73 dX4_digest_70 rfl cb_X4_mix cv_X4_mix ml_ob lk_X4_161 (rok (by decide) (by decide)) ⟨rfl, rfl⟩ ⟨Nat.zero_le _, Nat.zero_le _⟩ (k_mixM _) rfl rfl (Nat.le_of_ble_eq_true rfl) ?_
        refine v_iinc (i := 1) h 73 76 dX4_digest_73 rfl ld1 (by first | exact iinc1 _ | rfl) (by decide) (so1 rfl) ?_
        refine v_goto h 76 49 dX4_digest_76 (by decide) ?_
        exact V.weakT (ih (j + 1) (by omega)) (And.intro rfl (And.intro rfl trivial))
    exact V.weakT (loop49 (sp - 1) 0 (by omega)) (And.intro rfl (And.intro rfl trivial))
  have k24 : ∀ i1 i2, V E Γ 0 0 24 [some (.ref D), i1, i2] [] (ml E D S Ps A S T N1 I1 H1 w) := by
    intro i1 i2
    refine v_iconst (v := 0) h 24 25 dX4_digest_24 rfl (by decide) ?_
    refine v_istore_n (i := 1) h 25 26 dX4_digest_25 rfl rfl (by decide) (so1 rfl) ?_
    have loop26 : ∀ d j, j + d = 12 → V E Γ 0 0 26 [some (.ref D), some (.int (nI j)), none] [] (ml E D S Ps A S T N1 I1 (fMix (fun j => lnFact S nc j) j H1) w) := by
      intro d
      induction d with
      | zero =>
        intro j hj
        obtain rfl : j = 12 := by omega
        refine v_iload_n (i := 1) h 26 27 dX4_digest_26 rfl rfl ld1 ?_
        refine v_bipush (v := nI 12) h 27 29 dX4_digest_27 rfl (by decide) ?_
        refine v_icmp_ge h 29 32 47 dX4_digest_29 rfl (by decide) (fun h29 => ?_) (fun h29 => absurd (nI_le (Nat.le_refl _) (by omega)) h29)
        rw [← hH2]
        exact k47 _ _
      | succ d ih =>
        intro j hj
        refine v_iload_n (i := 1) h 26 27 dX4_digest_26 rfl rfl ld1 ?_
        refine v_bipush (v := nI 12) h 27 29 dX4_digest_27 rfl (by decide) ?_
        refine v_icmp_ge h 29 32 47 dX4_digest_29 rfl (by decide) (fun h29 => absurd h29 (nI_ge (by omega) (by omega))) (fun h29 => ?_)
        refine v_aload_n (i := 0) h 32 33 dX4_digest_32 rfl rfl ld0 ?_
        refine v_aload_n (i := 0) h 33 34 dX4_digest_33 rfl rfl ld0 ?_
        refine v_iload_n (i := 1) h 34 35 dX4_digest_34 rfl rfl ld1 ?_
        refine v_callV1 h 35 38 dX4_digest_35 rfl cb_X4_valueOf cv_X4_valueOf ml_ob lk_X4_133 (rok (by decide) (by decide)) ⟨rfl, rfl⟩ ⟨Nat.zero_le _, Nat.zero_le _⟩ (k_valueOf hI.c7 hI.n14 hI.chz (k := j) (by omega)) rfl rfl (Nat.le_of_ble_eq_true rfl) ?_
        refine v_callV0 h 38 41 dX4_digest_38 rfl cb_X4_mix cv_X4_mix ml_ob lk_X4_161 (rok (by decide) (by decide)) ⟨rfl, rfl⟩ ⟨Nat.zero_le _, Nat.zero_le _⟩ (k_mixM _) rfl rfl (Nat.le_of_ble_eq_true rfl) ?_
        refine v_iinc (i := 1) h 41 44 dX4_digest_41 rfl ld1 (by first | exact iinc1 _ | rfl) (by decide) (so1 rfl) ?_
        refine v_goto h 44 26 dX4_digest_44 (by decide) ?_
        exact V.weakT (ih (j + 1) (by omega)) (And.intro rfl (And.intro rfl trivial))
    exact V.weakT (loop26 12 0 (by omega)) (And.intro rfl (And.intro rfl trivial))
  refine v_aload_n (i := 0) h 9 10 dX4_digest_9 rfl rfl ld0 ?_
  refine v_ldc2 h 10 13 dX4_digest_10 rfl kl_X4_159 ?_
  refine v_putM11 h 13 16 dX4_digest_13 rfl fw_X4_155 ?_
  refine v_aload_n (i := 0) h 16 17 dX4_digest_16 rfl rfl ld0 ?_
  refine v_aload_n (i := 0) h 17 18 dX4_digest_17 rfl rfl ld0 ?_
  refine v_get h 18 21 dX4_digest_18 rfl fo_X4_136 ml_ob rfl ?_
  rw [hI11]
  refine v_callV0 h 21 24 dX4_digest_21 rfl cb_X4_mix cv_X4_mix ml_ob lk_X4_161 (rok (by decide) (by decide)) ⟨rfl, rfl⟩ ⟨Nat.zero_le _, Nat.zero_le _⟩ (k_mixM _) rfl rfl (Nat.le_of_ble_eq_true rfl) ?_
  rw [← hH1]
  exact k24 _ _

