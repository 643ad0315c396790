/-! THE DRILL'S METHODS THAT DON'T THROW -/
theorem V.weakT {E : EE} {Γ : Cx} {k n pc : Nat} {L L' : Lo} {st : List Value} {w : Wo} (kk : V E Γ k n pc L' st w) (h : lsub L' L) : V E Γ k n pc L st w := V.weak (lsub_at L' L h) kk
theorem rem4 : ∀ e, e < 4 → nI e + 1 - (nI e + 1) / 4 * 4 = nI ((e + 1) % 4) := by decide +kernel
theorem min4 : ∀ e, e < 5 → (if nI e + 1 < 4 then nI e + 1 else 4) = nI (min 4 (e + 1)) := by decide +kernel
theorem Inv.chz {S : St} {sp nc nt ne m : Nat} (h : Inv S sp nc nt ne m) : ∀ c, c < nc → S (13 + 8 * c + 3) = 0 ∨ S (13 + 8 * c + 3) = 1 := fun c hc => (h.2.2.1 c hc).2.2.2.1
/-- what lives of a row of numbers -/
def liveQ (nc nt ne i : Nat) : Prop := i < 13 ∨ (13 ≤ i ∧ i < 13 + 8 * nc) ∨ (125 ≤ i ∧ i < 125 + 8 * nt) ∨ (157 ≤ i ∧ i < 157 + ne)
def Ag (nc nt ne : Nat) (a b : St) : Prop := ∀ i, liveQ nc nt ne i → a i = b i
theorem Ag.inv {a b : St} {sp nc nt ne m : Nat} (h : Ag nc nt ne a b) (hI : Inv b sp nc nt ne m) : Inv a sp nc nt ne m := by
  have h14 := hI.n14
  have h4 := hI.n4
  refine ⟨hdI_eq (fun i hi _ _ => h i (Or.inl hi)) hI.1, by rw [cntE_eq nc (fun d hd => h _ (by unfold liveQ; omega))]; exact hI.2.1, fun d hd => ?_, fun t ht => ?_⟩
  · exact chI_eq (h _ (by unfold liveQ; omega)) (h _ (by unfold liveQ; omega)) (h _ (by unfold liveQ; omega)) (h _ (by unfold liveQ; omega)) (h _ (by unfold liveQ; omega)) (hI.2.2.1 d hd)
  · exact tmI_eq (h _ (by unfold liveQ; omega)) (h _ (by unfold liveQ; omega)) (h _ (by unfold liveQ; omega)) (h _ (by unfold liveQ; omega)) (fun d hd p q => by rw [h _ (by unfold liveQ; omega), h _ (by unfold liveQ; omega)]; exact ⟨p, q⟩) (hI.2.2.2 t ht)
theorem cp_ag {S1 S0 : St} {nc nt ne : Nat} (hne : ne ≤ 14) : Ag nc nt ne (cpS S1 S0 nc nt) S0 := fun i hi => cpf_in (by unfold liveQ at hi; unfold cpQ; omega)
theorem inv_cp {S1 S0 : St} {sp nc nt ne m : Nat} (h : Inv S0 sp nc nt ne m) : Inv (cpS S1 S0 nc nt) sp nc nt ne m := (cp_ag (by have := h.nle; have := h.n14; omega)).inv h
/-- the look ahead -/
def fcS (S1 S0 : St) (m nc nt : Nat) : St × Nat := rnS (cpS S1 S0 nc nt) m nc nt
def outI (r : St × Nat) : Int32 := if r.1 7 ≤ r.1 12 then nI r.2 else -1
theorem inv_rn {S : St} {sp nc nt ne m : Nat} (h : Inv S sp nc nt ne m) : ∃ ne' m', Inv (rnS S m nc nt).1 sp nc nt ne' m' ∧ (rnS S m nc nt).2 ≤ 1000 ∧ m' ≤ m + 1000 := by
  unfold rnS
  split
  · exact ⟨ne, m, h, Nat.zero_le _, by omega⟩
  · obtain ⟨ne', h1, h2⟩ := inv_run 1000 S ne m h
    exact ⟨ne', _, h1, h2, by omega⟩
def tellS (S T : St) : Nat → St
  | 0 => S
  | c + 1 => if tellS S T c (13 + 8 * c + 4) = 2 then tellS S T c else upd (tellS S T c) (13 + 8 * c + 7) (T (13 + 8 * c + 6))
def tellC (S T : St) : Nat → Int32
  | 0 => 0
  | c + 1 => if tellS S T c (13 + 8 * c + 4) = 2 then tellC S T c else tellC S T c + (if T (13 + 8 * c + 6) = -1 then 0 else 1)
theorem tellS_s (S T : St) (c : Nat) : tellS S T (c + 1) = if tellS S T c (13 + 8 * c + 4) = 2 then tellS S T c else upd (tellS S T c) (13 + 8 * c + 7) (T (13 + 8 * c + 6)) := rfl
theorem tellC_s (S T : St) (c : Nat) : tellC S T (c + 1) = if tellS S T c (13 + 8 * c + 4) = 2 then tellC S T c else tellC S T c + (if T (13 + 8 * c + 6) = -1 then 0 else 1) := rfl
theorem tellS_lo {S T : St} {i : Nat} (h : i < 13) : ∀ c, tellS S T c i = S i
  | 0 => rfl
  | c + 1 => by
    rw [tellS_s]
    split
    · exact tellS_lo h c
    · rw [upd_ne _ _ (by omega)]; exact tellS_lo h c
set_option maxRecDepth 100000 in
set_option maxHeartbeats 4000000 in
theorem k_savedAt {E : EE} {D : Nat} {S0 S1 : St} {Sv : Nat → St} {sc se tl : Int32} {tx : St} {w : Wo} {e : Nat} (he : e < 4) : Cd E mX3_savedAt (dl E D S0 S1 Sv sc se tl tx w) [.ref D, .int (nI e)] (some (.ref (D + 48 + 23 * e))) (dl E D S0 S1 Sv sc se tl tx w) := by
  refine Cd.of RX3 rfl (by decide) [some (.ref D), some (.int (nI e))] (Nat.le_of_ble_eq_true rfl) rfl (fun Γ h f hmn => ?_)
  refine v_iload_n (i := 1) h 0 1 dX3_savedAt_0 rfl rfl ld1 ?_
  refine v_if_lt h 1 4 22 dX3_savedAt_1 rfl (by decide) (fun h1 => absurd h1 (nI_pos (by omega))) (fun h1 => ?_)
  refine v_iload_n (i := 1) h 4 5 dX3_savedAt_4 rfl rfl ld1 ?_
  refine v_aload_n (i := 0) h 5 6 dX3_savedAt_5 rfl rfl ld0 ?_
  refine v_get h 6 9 dX3_savedAt_6 rfl fo_X3_23 dl_dr rfl ?_
  refine v_alen h 9 10 4 dX3_savedAt_9 rfl dl_sv rfl (v := nI 4) rfl ?_
  refine v_icmp_ge h 10 13 22 dX3_savedAt_10 rfl (by decide) (fun h10 => absurd h10 (nI_ge he (by decide))) (fun h10 => ?_)
  refine v_aload_n (i := 0) h 13 14 dX3_savedAt_13 rfl rfl ld0 ?_
  refine v_get h 14 17 dX3_savedAt_14 rfl fo_X3_23 dl_dr rfl ?_
  refine v_iload_n (i := 1) h 17 18 dX3_savedAt_17 rfl rfl ld1 ?_
  refine v_aaldS h 18 19 dX3_savedAt_18 rfl (by assumption) ?_
  refine v_goto h 19 23 dX3_savedAt_19 (by decide) ?_
  exact v_aret h 23 f dX3_savedAt_23 rfl (Or.inr ⟨_, rfl⟩) (Nat.zero_le _) (Nat.zero_le _) rfl rfl

set_option maxRecDepth 100000 in
set_option maxHeartbeats 4000000 in
theorem k_save {E : EE} {D : Nat} {S0 S1 : St} {Sv : Nat → St} {tl : Int32} {tx : St} {w : Wo} {e ks : Nat} (he : e < 4) (hks : ks ≤ 4) {sp nc nt ne m : Nat} (hI : Inv S0 sp nc nt ne m) : Cd E mX3_save (dl E D S0 S1 Sv (nI ks) (nI e) tl tx w) [.ref D] (none) (dl E D S0 S1 (va_up Sv e (cpS (Sv e) S0 nc nt)) (nI (min 4 (ks + 1))) (nI ((e + 1) % 4)) tl tx w) := by
  refine Cd.of RX3 rfl (by decide) [some (.ref D), none] (Nat.le_of_ble_eq_true rfl) rfl (fun Γ h f hmn => ?_)
  refine v_aload_n (i := 0) h 0 1 dX3_save_0 rfl rfl ld0 ?_
  refine v_aload_n (i := 0) h 1 2 dX3_save_1 rfl rfl ld0 ?_
  refine v_get h 2 5 dX3_save_2 rfl fo_X3_193 dl_dr rfl ?_
  refine v_callV1 h 5 8 dX3_save_5 rfl cb_X3_savedAt cv_X3_savedAt dl_dr lk_X3_196 (rok (by decide) (by decide)) ⟨rfl, rfl⟩ ⟨Nat.zero_le _, Nat.zero_le _⟩ (k_savedAt he) rfl rfl (Nat.le_of_ble_eq_true rfl) ?_
  refine v_astore_n (i := 1) h 8 9 dX3_save_8 rfl rfl (by decide) (so1 rfl) ?_
  refine v_aload_n (i := 1) h 9 10 dX3_save_9 rfl rfl ld1 ?_
  refine v_ifnull h 10 13 dX3_save_10 rfl ?_
  refine v_aload_n (i := 1) h 13 14 dX3_save_13 rfl rfl ld1 ?_
  refine v_aload_n (i := 0) h 14 15 dX3_save_14 rfl rfl ld0 ?_
  refine v_get h 15 18 dX3_save_15 rfl fo_X3_10 dl_dr rfl ?_
  refine v_callV0 h 18 21 dX3_save_18 rfl cb_X1_copyFrom cv_X1_copyFrom (dl_hk he).ln lk_X3_135 (rok (by decide) (by decide)) ⟨rfl, rfl⟩ ⟨Nat.zero_le _, Nat.zero_le _⟩ (Cd.dk he (k_copyFrom dl_h0 (by omega) hI.c7 hI.n14 hI.c8 hI.n4 hI.chz)) rfl rfl (Nat.le_of_ble_eq_true rfl) ?_
  refine v_aload_n (i := 0) h 21 22 dX3_save_21 rfl rfl ld0 ?_
  refine v_aload_n (i := 0) h 22 23 dX3_save_22 rfl rfl ld0 ?_
  refine v_get h 23 26 dX3_save_23 rfl fo_X3_193 dl_dr rfl ?_
  refine v_iconst (v := 1) h 26 27 dX3_save_26 rfl (by decide) ?_
  refine v_iadd h 27 28 dX3_save_27 rfl ?_
  refine v_iconst (v := 4) h 28 29 dX3_save_28 rfl (by decide) ?_
  refine v_irem h 29 30 dX3_save_29 rfl (by decide) ?_
  rw [rem4 e he]
  refine v_putSe h 30 33 dX3_save_30 rfl fw_X3_193 ?_
  refine v_aload_n (i := 0) h 33 34 dX3_save_33 rfl rfl ld0 ?_
  refine v_iconst (v := 4) h 34 35 dX3_save_34 rfl (by decide) ?_
  refine v_aload_n (i := 0) h 35 36 dX3_save_35 rfl rfl ld0 ?_
  refine v_get h 36 39 dX3_save_36 rfl fo_X3_188 dl_dr rfl ?_
  refine v_iconst (v := 1) h 39 40 dX3_save_39 rfl (by decide) ?_
  refine v_iadd h 40 41 dX3_save_40 rfl ?_
  refine v_mmin h 41 44 dX3_save_41 rfl lk_X3_215 ⟨Nat.zero_le _, Nat.zero_le _⟩ (by decide) (Nat.le_of_ble_eq_true rfl) ?_
  rw [min4 ks (by omega)]
  refine v_putSc h 44 47 dX3_save_44 rfl fw_X3_188 ?_
  exact v_ret h 47 f dX3_save_47 rfl (Nat.zero_le _) (Nat.zero_le _) rfl rfl

set_option maxRecDepth 100000 in
set_option maxHeartbeats 4000000 in
theorem k_minutesToAll {E : EE} {D : Nat} {S0 S1 : St} {Sv : Nat → St} {sc se tl : Int32} {tx : St} {w : Wo} {sp nc nt ne m : Nat} (hI : Inv S0 sp nc nt ne m) (hm : m < 2 ^ 30 - 5000) : Cd E mX3_minutesToAll (dl E D S0 S1 Sv sc se tl tx w) [.ref D] (some (.int (outI (fcS S1 S0 m nc nt)))) (dl E D S0 (fcS S1 S0 m nc nt).1 Sv sc se tl tx w) := by
  refine Cd.of RX3 rfl (by decide) [some (.ref D)] (Nat.le_of_ble_eq_true rfl) rfl (fun Γ h f hmn => ?_)
  refine v_aload_n (i := 0) h 0 1 dX3_minutesToAll_0 rfl rfl ld0 ?_
  refine v_get h 1 4 dX3_minutesToAll_1 rfl fo_X3_20 dl_dr rfl ?_
  refine v_aload_n (i := 0) h 4 5 dX3_minutesToAll_4 rfl rfl ld0 ?_
  refine v_get h 5 8 dX3_minutesToAll_5 rfl fo_X3_10 dl_dr rfl ?_
  refine v_callV0 h 8 11 dX3_minutesToAll_8 rfl cb_X1_copyFrom cv_X1_copyFrom dl_h1.ln lk_X3_135 (rok (by decide) (by decide)) ⟨rfl, rfl⟩ ⟨Nat.zero_le _, Nat.zero_le _⟩ (Cd.d1 (k_copyFrom dl_h0 (by omega) hI.c7 hI.n14 hI.c8 hI.n4 hI.chz)) rfl rfl (Nat.le_of_ble_eq_true rfl) ?_
  refine v_aload_n (i := 0) h 11 12 dX3_minutesToAll_11 rfl rfl ld0 ?_
  refine v_get h 12 15 dX3_minutesToAll_12 rfl fo_X3_20 dl_dr rfl ?_
  refine v_callV1 h 15 18 dX3_minutesToAll_15 rfl cb_X1_runOut cv_X1_runOut dl_h1.ln lk_X3_139 (rok (by decide) (by decide)) ⟨rfl, rfl⟩ ⟨Nat.zero_le _, Nat.zero_le _⟩ (Cd.d1 (k_runOut (inv_cp hI) hm)) rfl rfl (Nat.le_of_ble_eq_true rfl) ?_
  exact v_iret h 18 f dX3_minutesToAll_18 rfl (Nat.zero_le _) (Nat.zero_le _) rfl rfl

set_option maxRecDepth 100000 in
set_option maxHeartbeats 4000000 in
theorem k_tell {E : EE} {D : Nat} {S0 S1 : St} {Sv : Nat → St} {tl : Int32} {tx : St} {w : Wo} {e ks : Nat} (he : e < 4) (hks : ks ≤ 4) {sp nc nt ne m : Nat} (hI : Inv S0 sp nc nt ne m) (hm : m < 2 ^ 30 - 5000) : Cd E mX3_tell (dl E D S0 S1 Sv (nI ks) (nI e) tl tx w) [.ref D] (some (.int (tellC S0 (fcS S1 S0 m nc nt).1 nc))) (dl E D (tellS S0 (fcS S1 S0 m nc nt).1 nc) (fcS S1 S0 m nc nt).1 (va_up Sv e (cpS (Sv e) S0 nc nt)) (nI (min 4 (ks + 1))) (nI ((e + 1) % 4)) tl tx w) := by
  refine Cd.of RX3 rfl (by decide) [some (.ref D), none, none, none, none] (Nat.le_of_ble_eq_true rfl) rfl (fun Γ h f hmn => ?_)
  refine v_aload_n (i := 0) h 0 1 dX3_tell_0 rfl rfl ld0 ?_
  refine v_callV0 h 1 4 dX3_tell_1 rfl cb_X3_save cv_X3_save dl_dr lk_X3_56 (rok (by decide) (by decide)) ⟨rfl, rfl⟩ ⟨Nat.zero_le _, Nat.zero_le _⟩ (k_save he hks hI) rfl rfl (Nat.le_of_ble_eq_true rfl) ?_
  refine v_aload_n (i := 0) h 4 5 dX3_tell_4 rfl rfl ld0 ?_
  refine v_get h 5 8 dX3_tell_5 rfl fo_X3_20 dl_dr rfl ?_
  refine v_aload_n (i := 0) h 8 9 dX3_tell_8 rfl rfl ld0 ?_
  refine v_get h 9 12 dX3_tell_9 rfl fo_X3_10 dl_dr rfl ?_
  refine v_callV0 h 12 15 dX3_tell_12 rfl cb_X1_copyFrom cv_X1_copyFrom dl_h1.ln lk_X3_135 (rok (by decide) (by decide)) ⟨rfl, rfl⟩ ⟨Nat.zero_le _, Nat.zero_le _⟩ (Cd.d1 (k_copyFrom dl_h0 (by omega) hI.c7 hI.n14 hI.c8 hI.n4 hI.chz)) rfl rfl (Nat.le_of_ble_eq_true rfl) ?_
  refine v_aload_n (i := 0) h 15 16 dX3_tell_15 rfl rfl ld0 ?_
  refine v_get h 16 19 dX3_tell_16 rfl fo_X3_20 dl_dr rfl ?_
  refine v_callV1 h 19 22 dX3_tell_19 rfl cb_X1_runOut cv_X1_runOut dl_h1.ln lk_X3_139 (rok (by decide) (by decide)) ⟨rfl, rfl⟩ ⟨Nat.zero_le _, Nat.zero_le _⟩ (Cd.d1 (k_runOut (inv_cp hI) hm)) rfl rfl (Nat.le_of_ble_eq_true rfl) ?_
  refine v_pop h 22 23 dX3_tell_22 rfl rfl ?_
  refine v_iconst (v := 0) h 23 24 dX3_tell_23 rfl (by decide) ?_
  refine v_istore_n (i := 1) h 24 25 dX3_tell_24 rfl rfl (by decide) (so1 rfl) ?_
  refine v_iconst (v := 0) h 25 26 dX3_tell_25 rfl (by decide) ?_
  refine v_istore_n (i := 2) h 26 27 dX3_tell_26 rfl rfl (by decide) (so2 rfl) ?_
  have hn14 := hI.n14
  have f : Fn E Γ mX3_tell (some (.int (tellC S0 (fcS S1 S0 m nc nt).1 nc))) (dl E D (tellS S0 (fcS S1 S0 m nc nt).1 nc) (fcS S1 S0 m nc nt).1 (va_up Sv e (cpS (Sv e) S0 nc nt)) (nI (min 4 (ks + 1))) (nI ((e + 1) % 4)) tl tx w) := f
  obtain ⟨neT, mT', hT, -, -⟩ := inv_rn (inv_cp (S1 := S1) hI)
  refine V.world (w' := dl E D S0 (fcS S1 S0 m nc nt).1 (va_up Sv e (cpS (Sv e) S0 nc nt)) (nI (min 4 (ks + 1))) (nI ((e + 1) % 4)) tl tx w) rfl ?_
  have hT : Inv (fcS S1 S0 m nc nt).1 sp nc nt neT mT' := hT
  generalize (fcS S1 S0 m nc nt).1 = T at f hT ⊢
  have loop27 : ∀ d j, j + d = nc → V E Γ 0 0 27 [some (.ref D), some (.int (tellC S0 T j)), some (.int (nI j)), none, none] [] (dl E D (tellS S0 T j) T (va_up Sv e (cpS (Sv e) S0 nc nt)) (nI (min 4 (ks + 1))) (nI ((e + 1) % 4)) tl tx w) := by
    intro d
    induction d with
    | zero =>
      intro j hj
      obtain rfl : nc = j := by omega
      refine v_iload_n (i := 2) h 27 28 dX3_tell_27 rfl rfl ld2 ?_
      refine v_aload_n (i := 0) h 28 29 dX3_tell_28 rfl rfl ld0 ?_
      refine v_get h 29 32 dX3_tell_29 rfl fo_X3_10 dl_dr rfl ?_
      refine v_get h 32 35 dX3_tell_32 rfl fo_X3_47 dl_h0.ln rfl ?_
      refine v_icmp_ge h 35 38 106 dX3_tell_35 rfl (by decide) (fun h35 => ?_) (fun h35 => absurd (by rw [tellS_lo (by omega), hI.c7]; exact nI_le (Nat.le_refl _) (by omega)) h35)
      refine v_iload_n (i := 1) h 106 107 dX3_tell_106 rfl rfl ld1 ?_
      exact v_iret h 107 f dX3_tell_107 rfl (Nat.zero_le _) (Nat.zero_le _) rfl rfl
    | succ d ih =>
      intro j hj
      have hj4 : j < 14 := by omega
      refine v_iload_n (i := 2) h 27 28 dX3_tell_27 rfl rfl ld2 ?_
      refine v_aload_n (i := 0) h 28 29 dX3_tell_28 rfl rfl ld0 ?_
      refine v_get h 29 32 dX3_tell_29 rfl fo_X3_10 dl_dr rfl ?_
      refine v_get h 32 35 dX3_tell_32 rfl fo_X3_47 dl_h0.ln rfl ?_
      refine v_icmp_ge h 35 38 106 dX3_tell_35 rfl (by decide) (fun h35 => absurd h35 (by rw [tellS_lo (by omega), hI.c7]; exact nI_ge (by omega) (by omega))) (fun h35 => ?_)
      refine v_aload_n (i := 0) h 38 39 dX3_tell_38 rfl rfl ld0 ?_
      refine v_get h 39 42 dX3_tell_39 rfl fo_X3_10 dl_dr rfl ?_
      refine v_iload_n (i := 2) h 42 43 dX3_tell_42 rfl rfl ld2 ?_
      refine v_callV1 h 43 46 dX3_tell_43 rfl cb_X1_chairAt cv_X1_chairAt dl_h0.ln lk_X3_89 (rok (by decide) (by decide)) ⟨rfl, rfl⟩ ⟨Nat.zero_le _, Nat.zero_le _⟩ (Cd.d0 (k_chairS ((tellS_lo (by omega) j).trans hI.c7) hI.n14 (c := j) (by omega))) rfl rfl (Nat.le_of_ble_eq_true rfl) ?_
      refine v_astore_n (i := 3) h 46 47 dX3_tell_46 rfl rfl (by decide) (so3 rfl) ?_
      refine v_aload_n (i := 0) h 47 48 dX3_tell_47 rfl rfl ld0 ?_
      refine v_get h 48 51 dX3_tell_48 rfl fo_X3_20 dl_dr rfl ?_
      refine v_iload_n (i := 2) h 51 52 dX3_tell_51 rfl rfl ld2 ?_
      refine v_callV1 h 52 55 dX3_tell_52 rfl cb_X1_chairAt cv_X1_chairAt dl_h1.ln lk_X3_89 (rok (by decide) (by decide)) ⟨rfl, rfl⟩ ⟨Nat.zero_le _, Nat.zero_le _⟩ (Cd.d1 (k_chairS hT.c7 hI.n14 (c := j) (by omega))) rfl rfl (Nat.le_of_ble_eq_true rfl) ?_
      refine v_astore (i := 4) h 55 57 dX3_tell_55 rfl (by decide) (so4 rfl) ?_
      refine v_aload_n (i := 3) h 57 58 dX3_tell_57 rfl rfl ld3 ?_
      refine v_ifnull h 58 61 dX3_tell_58 rfl ?_
      refine v_aload (i := 4) h 61 63 dX3_tell_61 rfl ld4 ?_
      refine v_ifnull h 63 66 dX3_tell_63 rfl ?_
      refine v_aload_n (i := 3) h 66 67 dX3_tell_66 rfl rfl ld3 ?_
      refine v_get h 67 70 dX3_tell_67 rfl fo_X3_97 (dl_h0.ch (by assumption)) rfl ?_
      refine v_iconst (v := 2) h 70 71 dX3_tell_70 rfl (by decide) ?_
      refine v_icmp_eq h 71 74 100 dX3_tell_71 rfl (by decide) (fun h71 => ?_) (fun h71 => ?_)
      · refine v_iinc (i := 2) h 100 103 dX3_tell_100 rfl ld2 (by first | exact iinc1 _ | rfl) (by decide) (so2 rfl) ?_
        refine v_goto h 103 27 dX3_tell_103 (by decide) ?_
        have q := ih (j + 1) (by omega)
        rw [tellS_s, if_pos h71, tellC_s, if_pos h71] at q
        exact V.weakS (by simp [lsub]) q
      · refine v_aload_n (i := 3) h 74 75 dX3_tell_74 rfl rfl ld3 ?_
        refine v_aload (i := 4) h 75 77 dX3_tell_75 rfl ld4 ?_
        refine v_get h 77 80 dX3_tell_77 rfl fo_X3_143 (dl_h1.ch (by assumption)) rfl ?_
        refine v_putCh0 h 80 83 dX3_tell_80 rfl fw_X3_144 hj4 (by decide) ?_
        refine v_iload_n (i := 1) h 83 84 dX3_tell_83 rfl rfl ld1 ?_
        refine v_aload (i := 4) h 84 86 dX3_tell_84 rfl ld4 ?_
        refine v_get h 86 89 dX3_tell_86 rfl fo_X3_143 (dl_h1.ch (by assumption)) rfl ?_
        refine v_iconst (v := (-1)) h 89 90 dX3_tell_89 rfl (by decide) ?_
        refine v_icmp_ne h 90 93 97 dX3_tell_90 rfl (by decide) (fun h90 => ?_) (fun h90 => ?_)
        · refine v_iconst (v := 1) h 97 98 dX3_tell_97 rfl (by decide) ?_
          refine v_iadd h 98 99 dX3_tell_98 rfl ?_
          refine v_istore_n (i := 1) h 99 100 dX3_tell_99 rfl rfl (by decide) (so1 rfl) ?_
          refine v_iinc (i := 2) h 100 103 dX3_tell_100 rfl ld2 (by first | exact iinc1 _ | rfl) (by decide) (so2 rfl) ?_
          refine v_goto h 103 27 dX3_tell_103 (by decide) ?_
          have q := ih (j + 1) (by omega)
          rw [tellS_s, if_neg h71, tellC_s, if_neg h71, if_neg h90] at q
          exact V.weakS (by simp [lsub]) q
        · refine v_iconst (v := 0) h 93 94 dX3_tell_93 rfl (by decide) ?_
          refine v_goto h 94 98 dX3_tell_94 (by decide) ?_
          refine v_iadd h 98 99 dX3_tell_98 rfl ?_
          refine v_istore_n (i := 1) h 99 100 dX3_tell_99 rfl rfl (by decide) (so1 rfl) ?_
          refine v_iinc (i := 2) h 100 103 dX3_tell_100 rfl ld2 (by first | exact iinc1 _ | rfl) (by decide) (so2 rfl) ?_
          refine v_goto h 103 27 dX3_tell_103 (by decide) ?_
          have q := ih (j + 1) (by omega)
          rw [tellS_s, if_neg h71, tellC_s, if_neg h71, if_pos h90] at q
          exact V.weakS (by simp [lsub]) q
  exact V.weakT (loop27 nc 0 (by omega)) (And.intro rfl (And.intro rfl (And.intro rfl trivial)))

theorem inv_addT {S : St} {sp nc nt ne m a k : Nat} (h : Inv S sp nc nt ne m) (h4 : nt < 4) (ha : a < sp) (hk : k ≤ 30) : Inv (standS (upd S 8 (nI (nt + 1))) nt (nI a) (nI k)) sp nc (nt + 1) ne m := by
  have out : ∀ i, i ≠ 8 → (i < 125 + 8 * nt ∨ 125 + 8 * nt + 8 ≤ i) → standS (upd S 8 (nI (nt + 1))) nt (nI a) (nI k) i = S i := fun i q1 q2 => by rw [standS_ne q2, upd_ne _ _ q1]
  obtain ⟨⟨⟨a1, a2, a3, a4⟩, b1, b2, b3, b4, b5, b6⟩, hE, hC, hT⟩ := h
  refine ⟨⟨⟨by rw [out 0 (by omega) (by omega)]; exact a1, a2, a3, fun j hj => by rw [out (1 + j) (by omega) (by omega)]; exact a4 j hj⟩, by rw [out 7 (by omega) (by omega)]; exact b1, b2, by rw [standS_ne (by omega), upd_self], by omega, by rw [out 9 (by omega) (by omega)]; exact b5, by rw [out 12 (by omega) (by omega)]; exact b6⟩, by rw [cntE_eq nc (fun d hd => out _ (by omega) (by omega))]; exact hE, fun d hd => chI_eq (out _ (by omega) (by omega)) (out _ (by omega) (by omega)) (out _ (by omega) (by omega)) (out _ (by omega) (by omega)) (out _ (by omega) (by omega)) (hC d hd), fun t ht => ?_⟩
  by_cases e : t = nt
  · subst e
    have g0 : standS (upd S 8 (nI (t + 1))) t (nI a) (nI k) (125 + 8 * t + 0) = nI a := by
      unfold standS
      rw [idleS_ne (by omega), upd_ne _ _ (by omega), upd_ne _ _ (by omega), upd_ne _ _ (by omega), upd_ne _ _ (by omega), upd_self]
    have g1 : standS (upd S 8 (nI (t + 1))) t (nI a) (nI k) (125 + 8 * t + 1) = nI k := by
      unfold standS
      rw [idleS_ne (by omega), upd_ne _ _ (by omega), upd_ne _ _ (by omega), upd_ne _ _ (by omega), upd_self]
    have g2 : standS (upd S 8 (nI (t + 1))) t (nI a) (nI k) (125 + 8 * t + 2) = 0 := by
      unfold standS idleS
      rw [upd_ne _ _ (by omega), upd_ne _ _ (by omega), upd_self]
    have g4 : standS (upd S 8 (nI (t + 1))) t (nI a) (nI k) (125 + 8 * t + 4) = -1 := by
      unfold standS idleS
      rw [upd_self]
    exact ⟨⟨a, ha, g0⟩, ⟨k, hk, g1⟩, Or.inl ⟨Or.inl g2, g4⟩⟩
  · exact tmI_eq (out _ (by omega) (by omega)) (out _ (by omega) (by omega)) (out _ (by omega) (by omega)) (out _ (by omega) (by omega)) (fun d hd p q => by rw [out _ (by omega) (by omega), out _ (by omega) (by omega)]; exact ⟨p, q⟩) (hT t (by omega))
def mcS (S : St) : Nat → Int32
  | 0 => 0
  | c + 1 => if S (13 + 8 * c + 4) = 2 then mcS S c else mcS S c + S (13 + 8 * c + 2)
def mcN (S : St) : Nat → Int32
  | 0 => 0
  | c + 1 => if S (13 + 8 * c + 4) = 2 then mcN S c else mcN S c + 1
theorem mcS_s (S : St) (c : Nat) : mcS S (c + 1) = if S (13 + 8 * c + 4) = 2 then mcS S c else mcS S c + S (13 + 8 * c + 2) := rfl
theorem mcN_s (S : St) (c : Nat) : mcN S (c + 1) = if S (13 + 8 * c + 4) = 2 then mcN S c else mcN S c + 1 := rfl
def mcR (S : St) (n : Nat) : UInt64 := if mcN S n = 0 then 0 else FP.ddiv (FP.i2d (mcS S n)) (FP.i2d (mcN S n))
set_option maxRecDepth 100000 in
set_option maxHeartbeats 4000000 in
theorem k_meanCold {E : EE} {D : Nat} {S0 S1 : St} {Sv : Nat → St} {sc se tl : Int32} {tx : St} {w : Wo} {sp nc nt ne m : Nat} (hI : Inv S0 sp nc nt ne m) (hd : ¬ mcN S0 nc = 0 → vf_n64 (FP.ddiv (FP.i2d (mcS S0 nc)) (FP.i2d (mcN S0 nc)))) : Cd E mX3_meanCold (dl E D S0 S1 Sv sc se tl tx w) [.ref D] (some (.double (mcR S0 nc))) (dl E D S0 S1 Sv sc se tl tx w) := by
  refine Cd.of RX3 rfl (by decide) [some (.ref D), none, none, none, none] (Nat.le_of_ble_eq_true rfl) rfl (fun Γ h f hmn => ?_)
  have hn14 := hI.n14
  refine v_iconst (v := 0) h 0 1 dX3_meanCold_0 rfl (by decide) ?_
  refine v_istore_n (i := 1) h 1 2 dX3_meanCold_1 rfl rfl (by decide) (so1 rfl) ?_
  refine v_iconst (v := 0) h 2 3 dX3_meanCold_2 rfl (by decide) ?_
  refine v_istore_n (i := 2) h 3 4 dX3_meanCold_3 rfl rfl (by decide) (so2 rfl) ?_
  refine v_iconst (v := 0) h 4 5 dX3_meanCold_4 rfl (by decide) ?_
  refine v_istore_n (i := 3) h 5 6 dX3_meanCold_5 rfl rfl (by decide) (so3 rfl) ?_
  have loop6 : ∀ d j, j + d = nc → V E Γ 0 0 6 [some (.ref D), some (.int (mcS S0 j)), some (.int (mcN S0 j)), some (.int (nI j)), none] [] (dl E D S0 S1 Sv sc se tl tx w) := by
    intro d
    induction d with
    | zero =>
      intro j hj
      obtain rfl : nc = j := by omega
      refine v_iload_n (i := 3) h 6 7 dX3_meanCold_6 rfl rfl ld3 ?_
      refine v_aload_n (i := 0) h 7 8 dX3_meanCold_7 rfl rfl ld0 ?_
      refine v_get h 8 11 dX3_meanCold_8 rfl fo_X3_10 dl_dr rfl ?_
      refine v_get h 11 14 dX3_meanCold_11 rfl fo_X3_47 dl_h0.ln rfl ?_
      refine v_icmp_ge h 14 17 58 dX3_meanCold_14 rfl (by decide) (fun h14 => ?_) (fun h14 => absurd (by rw [hI.c7]; exact nI_le (Nat.le_refl _) (by omega)) h14)
      refine v_iload_n (i := 2) h 58 59 dX3_meanCold_58 rfl rfl ld2 ?_
      refine v_if_ne h 59 62 66 dX3_meanCold_59 rfl (by decide) (fun h59 => ?_) (fun h59 => ?_)
      · refine v_iload_n (i := 1) h 66 67 dX3_meanCold_66 rfl rfl ld1 ?_
        refine v_i2d h 67 68 dX3_meanCold_67 rfl ?_
        refine v_iload_n (i := 2) h 68 69 dX3_meanCold_68 rfl rfl ld2 ?_
        refine v_i2d h 69 70 dX3_meanCold_69 rfl ?_
        refine v_ddiv h 70 71 dX3_meanCold_70 rfl (hd h59) ?_
        refine v_dret h 71 f dX3_meanCold_71 rfl (Nat.zero_le _) (Nat.zero_le _) ?_ ?_
        · rw [mcR, if_neg h59]
        · rfl
      · refine v_dconst0 h 62 63 dX3_meanCold_62 rfl ?_
        refine v_goto h 63 71 dX3_meanCold_63 (by decide) ?_
        refine v_dret h 71 f dX3_meanCold_71 rfl (Nat.zero_le _) (Nat.zero_le _) ?_ ?_
        · rw [mcR, if_pos h59]
        · rfl
    | succ d ih =>
      intro j hj
      have hj4 : j < 14 := by omega
      refine v_iload_n (i := 3) h 6 7 dX3_meanCold_6 rfl rfl ld3 ?_
      refine v_aload_n (i := 0) h 7 8 dX3_meanCold_7 rfl rfl ld0 ?_
      refine v_get h 8 11 dX3_meanCold_8 rfl fo_X3_10 dl_dr rfl ?_
      refine v_get h 11 14 dX3_meanCold_11 rfl fo_X3_47 dl_h0.ln rfl ?_
      refine v_icmp_ge h 14 17 58 dX3_meanCold_14 rfl (by decide) (fun h14 => absurd h14 (by rw [hI.c7]; exact nI_ge (by omega) (by omega))) (fun h14 => ?_)
      refine v_aload_n (i := 0) h 17 18 dX3_meanCold_17 rfl rfl ld0 ?_
      refine v_get h 18 21 dX3_meanCold_18 rfl fo_X3_10 dl_dr rfl ?_
      refine v_iload_n (i := 3) h 21 22 dX3_meanCold_21 rfl rfl ld3 ?_
      refine v_callV1 h 22 25 dX3_meanCold_22 rfl cb_X1_chairAt cv_X1_chairAt dl_h0.ln lk_X3_89 (rok (by decide) (by decide)) ⟨rfl, rfl⟩ ⟨Nat.zero_le _, Nat.zero_le _⟩ (Cd.d0 (k_chairS hI.c7 hI.n14 (c := j) (by omega))) rfl rfl (Nat.le_of_ble_eq_true rfl) ?_
      refine v_astore (i := 4) h 25 27 dX3_meanCold_25 rfl (by decide) (so4 rfl) ?_
      refine v_aload (i := 4) h 27 29 dX3_meanCold_27 rfl ld4 ?_
      refine v_ifnull h 29 32 dX3_meanCold_29 rfl ?_
      refine v_aload (i := 4) h 32 34 dX3_meanCold_32 rfl ld4 ?_
      refine v_get h 34 37 dX3_meanCold_34 rfl fo_X3_97 (dl_h0.ch (by assumption)) rfl ?_
      refine v_iconst (v := 2) h 37 38 dX3_meanCold_37 rfl (by decide) ?_
      refine v_icmp_eq h 38 41 52 dX3_meanCold_38 rfl (by decide) (fun h38 => ?_) (fun h38 => ?_)
      · refine v_iinc (i := 3) h 52 55 dX3_meanCold_52 rfl ld3 (by first | exact iinc1 _ | rfl) (by decide) (so3 rfl) ?_
        refine v_goto h 55 6 dX3_meanCold_55 (by decide) ?_
        have q := ih (j + 1) (by omega)
        rw [mcS_s, if_pos h38, mcN_s, if_pos h38] at q
        exact V.weakS (by simp [lsub]) q
      · refine v_iload_n (i := 1) h 41 42 dX3_meanCold_41 rfl rfl ld1 ?_
        refine v_aload (i := 4) h 42 44 dX3_meanCold_42 rfl ld4 ?_
        refine v_get h 44 47 dX3_meanCold_44 rfl fo_X3_104 (dl_h0.ch (by assumption)) rfl ?_
        refine v_iadd h 47 48 dX3_meanCold_47 rfl ?_
        refine v_istore_n (i := 1) h 48 49 dX3_meanCold_48 rfl rfl (by decide) (so1 rfl) ?_
        refine v_iinc (i := 2) h 49 52 dX3_meanCold_49 rfl ld2 (by first | exact iinc1 _ | rfl) (by decide) (so2 rfl) ?_
        refine v_iinc (i := 3) h 52 55 dX3_meanCold_52 rfl ld3 (by first | exact iinc1 _ | rfl) (by decide) (so3 rfl) ?_
        refine v_goto h 55 6 dX3_meanCold_55 (by decide) ?_
        have q := ih (j + 1) (by omega)
        rw [mcS_s, if_neg h38, mcN_s, if_neg h38] at q
        exact V.weakS (by simp [lsub]) q
  exact V.weakT (loop6 nc 0 (by omega)) (And.intro rfl (And.intro rfl (And.intro rfl (And.intro rfl trivial))))

theorem k_jrn {E : EE} {B : Nat} {S : St} {w : Wo} {ne j : Nat} (e12 : S 12 = nI ne) (hn : ne ≤ 14) (hj : j < ne) : Cd E mX1_journalAt (pl E B S w) [.ref B, .int (nI j)] (some (.int (S (157 + j)))) (pl E B S w) := by
  have h := k_journalAt (E := E) (B := B) (S := S) (w := w) (nI j)
  rw [if3 (nI_pos (by omega)) (by rw [e12]; exact nI_ge hj (by omega)) (nI_ge (by omega) (by decide)), nI_clamp (by omega)] at h
  exact h
