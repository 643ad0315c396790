/-! IS IT SO: the law asks for all that the class tells -/
def mF (S : St) (j : Nat) : St := fun i => if i = 0 then cntI S 0 j else if i = 1 then cntI S 1 j else if i = 2 then cntI S 2 j else if i = 3 then rdI S 0 j else if i = 4 then rdI S 1 j else if i = 5 then rdI S 2 j else 0
theorem mF_0 {S : St} : mF S 0 = fun _ => 0 := by
  funext i
  unfold mF
  repeat' split
  all_goals rfl
theorem mF_c {S : St} {j s : Nat} (h : s < 3) : mF S j s = cntI S (nI s) j := by
  rcases (show s = 0 ∨ s = 1 ∨ s = 2 by omega) with rfl | rfl | rfl <;> rfl
theorem mF_r {S : St} {j s : Nat} (h : s < 3) : mF S j (3 + s) = rdI S (nI s) j := by
  rcases (show s = 0 ∨ s = 1 ∨ s = 2 by omega) with rfl | rfl | rfl <;> rfl
theorem mF_o {S : St} {j i : Nat} (h : 6 ≤ i) : mF S j i = 0 := by
  unfold mF
  rw [if_neg (by omega), if_neg (by omega), if_neg (by omega), if_neg (by omega), if_neg (by omega), if_neg (by omega)]
theorem mF_s {S : St} {j s : Nat} (hs : s < 3) (h : S (13 + 8 * j + 4) = nI s) : upd (upd (mF S j) s (mF S j s + 1)) (3 + s) (upd (mF S j) s (mF S j s + 1) (3 + s) + S (13 + 8 * j + 1)) = mF S (j + 1) := by
  funext i
  rcases (show i < 3 ∨ (∃ k, k < 3 ∧ i = 3 + k) ∨ 6 ≤ i by
    rcases Nat.lt_or_ge i 3 with q | q
    · exact Or.inl q
    · rcases Nat.lt_or_ge i 6 with q2 | q2
      · exact Or.inr (Or.inl ⟨i - 3, by omega, by omega⟩)
      · exact Or.inr (Or.inr q2)) with hi | ⟨k, hk, rfl⟩ | hi
  · rw [upd_ne _ _ (show i ≠ 3 + s by omega), mF_c hi, cntI_s, h]
    by_cases e : i = s
    · rw [e, upd_self, if_pos rfl, mF_c hs]
    · rw [upd_ne _ _ e, if_neg (fun q => e (nI_inj (by omega) (by omega) q).symm), mF_c hi]
  · rw [mF_r hk, rdI_s, h]
    by_cases e : k = s
    · rw [e, upd_self, if_pos rfl, upd_ne _ _ (show 3 + s ≠ s by omega), mF_r hs]
    · rw [upd_ne _ _ (show 3 + k ≠ 3 + s by omega), if_neg (fun q => e (nI_inj (by omega) (by omega) q).symm), upd_ne _ _ (show 3 + k ≠ s by omega), mF_r hk]
  · rw [upd_ne _ _ (show i ≠ 3 + s by omega), upd_ne _ _ (show i ≠ s by omega), mF_o hi, mF_o hi]
theorem cnt2 {S : St} : ∀ n, cntI S 2 n = nI (cntE S n) := by
  intro n
  induction n with
  | zero => rfl
  | succ n ih =>
    rw [cntI_s, cntE, ih]
    by_cases h : S (13 + 8 * n + 4) = 2
    · rw [if_pos h, if_pos h, nI_1]
    · rw [if_neg h, if_neg h, Nat.add_zero]
theorem mcN_is {S : St} {sp nc nt ne m : Nat} (hI : Inv S sp nc nt ne m) : ∀ n, n ≤ nc → mcN S n = cntI S 0 n + cntI S 1 n := by
  intro n
  induction n with
  | zero => intro _; rfl
  | succ n ih =>
    intro hn
    rw [mcN_s, cntI_s, cntI_s, ih (by omega)]
    rcases (hI.2.2.1 n (by omega)).2.2.2.2 with h | h | h
    · rw [h, if_neg i02, if_pos rfl, if_neg (by decide), Int32.add_assoc, Int32.add_comm (cntI S 1 n) 1, ← Int32.add_assoc]
    · rw [h, if_neg i12, if_neg i10, if_pos rfl, Int32.add_assoc]
    · rw [h, if_pos rfl, if_neg i20, if_neg i21]
theorem gr_s {S : St} {j : Nat} (h : S (13 + 8 * j + 4) = nI 0) : (if rkS S j ≤ grI S j then grI S j else rkS S j) = grI S (j + 1) := by
  rw [grI_s, if_pos (h.trans nI_0)]
  by_cases q : rkS S j ≤ grI S j
  · rw [if_pos q, if_neg (le_nlt q)]
  · rw [if_neg q, if_pos (nle_lt q)]
theorem gr_n {S : St} {j : Nat} (h : ¬ S (13 + 8 * j + 4) = 0) : grI S j = grI S (j + 1) := by rw [grI_s, if_neg h]
theorem mc_y {S : St} {j : Nat} (h : ¬ S (13 + 8 * j + 4) = 2) : mcS S j + S (13 + 8 * j + 2) = mcS S (j + 1) := by rw [mcS_s, if_neg h]
theorem mc_n {S : St} {j : Nat} (h : S (13 + 8 * j + 4) = 2) : mcS S j + 0 = mcS S (j + 1) := by rw [mcS_s, if_pos h, Int32.add_zero]
theorem chF_lo {S : St} {c k : Nat} (h : k < 4) : chFact S c k = S (13 + 8 * c + k) := if_pos h
theorem chF_hi {S : St} {c k : Nat} (h : 4 ≤ k) : chFact S c (k + 1) = S (13 + 8 * c + k) := by
  unfold chFact
  rw [if_neg (by omega), if_neg (by omega), Nat.add_sub_cancel]
theorem chF_4 {S : St} {c : Nat} : chFact S c 4 = rkS S c := rfl
theorem lnF_a {S : St} {nc k : Nat} (h : k < 3) : lnFact S nc (1 + k) = S (7 + k) := by
  rcases (show k = 0 ∨ k = 1 ∨ k = 2 by omega) with rfl | rfl | rfl <;> rfl
theorem lnF_b {S : St} {nc k : Nat} (h : k < 3) : lnFact S nc (4 + k) = mF S nc k := by
  rcases (show k = 0 ∨ k = 1 ∨ k = 2 by omega) with rfl | rfl | rfl <;> rfl
theorem mean_self : ∀ a, a < 281 → ∀ b, b < 14 → Op.cmpValue (FP.dcmp (FP.ddiv (FP.i2d (nI a)) (FP.i2d (nI (b + 1)))) (FP.ddiv (FP.i2d (nI a)) (FP.i2d (nI (b + 1))))) .l = 0 := by decide +kernel
theorem mean_cmp {S : St} {sp nc nt ne m : Nat} (hI : Inv S sp nc nt ne m) : Op.cmpValue (FP.dcmp (mcR S nc) (mcR S nc)) .l = 0 := by
  unfold mcR
  by_cases h : mcN S nc = 0
  · rw [if_pos h]
    decide +kernel
  · rw [if_neg h]
    obtain ⟨a, b, h1, h2, h3, h4⟩ := mc_is hI nc (Nat.le_refl _)
    have := hI.n14
    rw [h4] at h
    obtain ⟨b', rfl⟩ : ∃ b', b = b' + 1 := ⟨b - 1, by
      rcases Nat.eq_zero_or_pos b with q | q
      · subst q; exact absurd rfl h
      · omega⟩
    rw [h3, h4]
    exact mean_self a (by omega) b' (by omega)
theorem v_ldQr {E : EE} {Γ : Cx} {M : MI} {own : String} {k n : Nat} {L : Lo} {st : List Value} {w : Wo} {B : Nat} {R : St} (h : OkB E Γ M own) (pc q : Nat) (i : Nat) (hd : decode (mC M) pc = .ok (.iaload, 1)) (hq : pc + 1 = q) (hi : i < 32) (kk : V E Γ k n q L (.int (R (125 + i)) :: st) (lw E B R w)) : V E Γ k n pc L (.int (nI i) :: .ref (B + 2) :: st) (lw E B R w) := by
  refine v_iald h pc q hd hq lw_q (vp_in_nI (n := i) (by omega) (by decide)) ?_
  rw [nI_clamp (by omega), gd_at (by omega)]
  exact kk
set_option maxRecDepth 100000 in
set_option maxHeartbeats 4000000 in
theorem k_isSo {E : EE} (hE : E.1.stackTraces = false) {D n : Nat} {S0 S1 R : St} {Sv : Nat → St} {ks e nc nt ne m : Nat} {F : Nat → Option va_E} (hR : Rl S0 R ks e nc nt ne m) : Cz E mL_isSo (lw E (D + 141) R (dl E D S0 S1 Sv (nI ks) (nI e) 0 (fun _ => 0) (n, F))) [.ref D, .ref (D + 141), .ref (D + 141 + 1), .ref (D + 141 + 2), .ref (D + 141 + 3)] (some (.int 1)) (lw E (D + 141) R (dl E D S0 S1 Sv (nI ks) (nI e) 0 (fun _ => 0) (n, F))) := by
  obtain ⟨hI, hJ, h8, hm, hA, he, hks⟩ := id hR
  have hnt := hI.n4
  have hn := hI.n14
  have hne := hI.nle
  have hI0 : Inv S0 3 nc nt ne m := hA.inv hI
  have h0 : R 0 = nI 3 := hI.1.1.1
  have z0 : S0 0 = nI 3 := hI0.1.1.1
  have eM : mcR S0 nc = mcR R nc := by unfold mcR; rw [hA.mcN nc (Nat.le_refl _), hA.mcS nc (Nat.le_refl _)]
  have eE : mF R nc 2 = R 12 := by rw [hI.c12, hI.2.1]; exact cnt2 nc
  have eR7 : lnFact R nc 7 = mF R nc 3 + mF R nc 4 := rfl
  have eR8 : lnFact R nc 8 = mF R nc 5 := rfl
  refine Cz.of RL rfl (by decide) [some (.ref D), some (.ref (D + 141)), some (.ref (D + 141 + 1)), some (.ref (D + 141 + 2)), some (.ref (D + 141 + 3)), none, none, none, none, none, none, none, none, none] (Nat.le_of_ble_eq_true rfl) rfl (fun hNn Γ h hZ f => ?_)
  have hDn := mk_n hNn
  have hFn := mk_none hDn hNn
  have k676 : ∀ nx, n + 1 ≤ nx → V E Γ 1 6 676 [some (.ref D), some (.ref (D + 141)), some (.ref (D + 141 + 1)), some (.ref (D + 141 + 2)), some (.ref (D + 141 + 3)), some (.ref n), none, none, some (.int 1), none, none, none, none, none] [] (lw E (D + 141) R (dl E D S0 S1 Sv (nI ks) (nI e) 0 (fun _ => 0) (nx, FA F n (.inl (gI E, 6, .inl (mF R nc)))))) := by
    intro nx hx
    refine v_iload (i := 8) h 676 678 dL_isSo_676 rfl ld8 ?_
    refine v_if_eq h 678 681 713 dL_isSo_678 rfl (by decide) (fun h678 => absurd h678 (by decide)) (fun h678 => ?_)
    refine v_aload_n (i := 0) h 681 682 dL_isSo_681 rfl rfl ld0 ?_
    refine v_aload_n (i := 1) h 682 683 dL_isSo_682 rfl rfl ld1 ?_
    refine v_bipush (v := nI 7) h 683 685 dL_isSo_683 rfl (by decide) ?_
    refine v_ldG h 685 686 7 dL_isSo_685 rfl (by omega) ?_
    rw [hI.c7]
    refine v_iconst (v := 0) h 686 687 dL_isSo_686 rfl (by decide) ?_
    refine v_callS1h h hZ 687 690 dL_isSo_687 rfl cb_L_chairOf cs_L_chairOf lk_L_115 (rok (by decide) (by decide)) ⟨by decide, by decide⟩ (t_chairOf1 hD_lw (Cthr.lw (fun w => x_chair1 hE (Or.inr (by rw [hI0.c7]; exact nI_le (Nat.le_refl _) (by omega)))))) rfl rfl (Nat.le_of_ble_eq_true rfl) (fun n687 hn687 => ?_)
    refine V.nx (k' := 2) (n' := 12) (w' := lw E (D + 141) R (dl E D S0 S1 Sv (nI ks) (nI e) 0 (fun _ => 0) (n687, FA F n (.inl (gI E, 6, .inl (mF R nc)))))) (by decide) (by decide) rfl ?_
    have q687 : n + 1 ≤ n687 := Nat.le_trans hx hn687
    refine v_ldc h 690 692 dL_isSo_690 rfl kc_L_35 ?_
    refine v_icmp_ne h 692 695 713 dL_isSo_692 rfl (by decide) (fun h692 => absurd (by decide) h692) (fun h692 => ?_)
    refine v_aload_n (i := 0) h 695 696 dL_isSo_695 rfl rfl ld0 ?_
    refine v_aload_n (i := 1) h 696 697 dL_isSo_696 rfl rfl ld1 ?_
    refine v_bipush (v := nI 8) h 697 699 dL_isSo_697 rfl (by decide) ?_
    refine v_ldG h 699 700 8 dL_isSo_699 rfl (by omega) ?_
    rw [hI.c8]
    refine v_iconst (v := 0) h 700 701 dL_isSo_700 rfl (by decide) ?_
    refine v_callS1h h hZ 701 704 dL_isSo_701 rfl cb_L_teamOf cs_L_teamOf lk_L_121 (rok (by decide) (by decide)) ⟨by decide, by decide⟩ (t_teamOf1 hD_lw (Cthr.lw (fun w => x_team1 hE (Or.inr (by rw [hI0.c8]; exact nI_le (Nat.le_refl _) (by omega)))))) rfl rfl (Nat.le_of_ble_eq_true rfl) (fun n701 hn701 => ?_)
    refine V.nx (k' := 3) (n' := 18) (w' := lw E (D + 141) R (dl E D S0 S1 Sv (nI ks) (nI e) 0 (fun _ => 0) (n701, FA F n (.inl (gI E, 6, .inl (mF R nc)))))) (by decide) (by decide) rfl ?_
    have q701 : n + 1 ≤ n701 := Nat.le_trans q687 hn701
    refine v_ldc h 704 706 dL_isSo_704 rfl kc_L_35 ?_
    refine v_icmp_ne h 706 709 713 dL_isSo_706 rfl (by decide) (fun h706 => absurd (by decide) h706) (fun h706 => ?_)
    refine v_iconst (v := 1) h 709 710 dL_isSo_709 rfl (by decide) ?_
    refine v_goto h 710 714 dL_isSo_710 (by decide) ?_
    refine V.less (w' := lw E (D + 141) R (dl E D S0 S1 Sv (nI ks) (nI e) 0 (fun _ => 0) (n701, F))) rfl (mk_less hDn hFn) ?_
    exact v_zretz h 714 f dL_isSo_714 rfl rfl (by decide) (by decide) rfl (by show n ≤ n701; omega) rfl
  have loop618 : ∀ d i, i + d = 3 → ∀ nx, n + 1 ≤ nx → V E Γ 1 6 618 [some (.ref D), some (.ref (D + 141)), some (.ref (D + 141 + 1)), some (.ref (D + 141 + 2)), some (.ref (D + 141 + 3)), some (.ref n), none, none, some (.int 1), none, none, none, some (.int (nI i)), none] [] (lw E (D + 141) R (dl E D S0 S1 Sv (nI ks) (nI e) 0 (fun _ => 0) (nx, FA F n (.inl (gI E, 6, .inl (mF R nc)))))) := by
    intro d
    induction d with
    | zero =>
      intro i hj nx hx
      obtain rfl : i = 3 := by omega
      refine v_iload (i := 12) h 618 620 dL_isSo_618 rfl ld12 ?_
      refine v_iconst (v := nI 3) h 620 621 dL_isSo_620 rfl (by decide) ?_
      refine v_icmp_ge h 621 624 676 dL_isSo_621 rfl (by decide) (fun h621 => ?_) (fun h621 => absurd (nI_le (a := 3) (b := 3) (by omega) (by omega)) h621)
      exact V.weakT (k676 nx hx) (And.intro rfl (And.intro rfl (And.intro rfl (And.intro rfl (And.intro rfl (And.intro rfl (And.intro rfl trivial)))))))
    | succ d ihi =>
      intro i hj nx hx
      refine v_iload (i := 12) h 618 620 dL_isSo_618 rfl ld12 ?_
      refine v_iconst (v := nI 3) h 620 621 dL_isSo_620 rfl (by decide) ?_
      refine v_icmp_ge h 621 624 676 dL_isSo_621 rfl (by decide) (fun h621 => absurd h621 (nI_ge (a := i) (b := 3) (by omega) (by omega))) (fun h621 => ?_)
      refine v_iload (i := 8) h 624 626 dL_isSo_624 rfl ld8 ?_
      refine v_if_eq h 626 629 667 dL_isSo_626 rfl (by decide) (fun h626 => absurd h626 (by decide)) (fun h626 => ?_)
      refine v_aload_n (i := 0) h 629 630 dL_isSo_629 rfl rfl ld0 ?_
      refine v_iconst (v := nI 1) h 630 631 dL_isSo_630 rfl (by decide) ?_
      refine v_iload (i := 12) h 631 633 dL_isSo_631 rfl ld12 ?_
      refine v_iaddN h 633 634 dL_isSo_633 rfl ?_
      refine v_callS1h h hZ 634 637 dL_isSo_634 rfl cb_Lz_valueOf cs_Lz_valueOf lk_L_133 (rok (by decide) (by decide)) ⟨by decide, by decide⟩ (g_valueOf hD_lw (Cd.lw (fun w => c_value hI0 (k := 1 + i) (by omega)))) rfl rfl (Nat.le_of_ble_eq_true rfl) (fun n634 hn634 => ?_)
      refine V.nx (k' := 1) (n' := 6) (w' := lw E (D + 141) R (dl E D S0 S1 Sv (nI ks) (nI e) 0 (fun _ => 0) (n634, FA F n (.inl (gI E, 6, .inl (mF R nc)))))) (by decide) (by decide) rfl ?_
      have q634 : n + 1 ≤ n634 := Nat.le_trans hx hn634
      refine v_aload_n (i := 1) h 637 638 dL_isSo_637 rfl rfl ld1 ?_
      refine v_bipush (v := nI 7) h 638 640 dL_isSo_638 rfl (by decide) ?_
      refine v_iload (i := 12) h 640 642 dL_isSo_640 rfl ld12 ?_
      refine v_iaddN h 642 643 dL_isSo_642 rfl ?_
      refine v_ldG h 643 644 (7 + i) dL_isSo_643 rfl (by omega) ?_
      refine v_icmp_ne h 644 647 667 dL_isSo_644 rfl (by decide) (fun h644 => absurd ((hA.ln (by omega)).trans (lnF_a (by omega))) h644) (fun h644 => ?_)
      refine v_aload_n (i := 0) h 647 648 dL_isSo_647 rfl rfl ld0 ?_
      refine v_iconst (v := nI 4) h 648 649 dL_isSo_648 rfl (by decide) ?_
      refine v_iload (i := 12) h 649 651 dL_isSo_649 rfl ld12 ?_
      refine v_iaddN h 651 652 dL_isSo_651 rfl ?_
      refine v_callS1h h hZ 652 655 dL_isSo_652 rfl cb_Lz_valueOf cs_Lz_valueOf lk_L_133 (rok (by decide) (by decide)) ⟨by decide, by decide⟩ (g_valueOf hD_lw (Cd.lw (fun w => c_value hI0 (k := 4 + i) (by omega)))) rfl rfl (Nat.le_of_ble_eq_true rfl) (fun n652 hn652 => ?_)
      refine V.nx (k' := 1) (n' := 6) (w' := lw E (D + 141) R (dl E D S0 S1 Sv (nI ks) (nI e) 0 (fun _ => 0) (n652, FA F n (.inl (gI E, 6, .inl (mF R nc)))))) (by decide) (by decide) rfl ?_
      have q652 : n + 1 ≤ n652 := Nat.le_trans q634 hn652
      refine v_aload (i := 5) h 655 657 dL_isSo_655 rfl ld5 ?_
      refine v_iload (i := 12) h 657 659 dL_isSo_657 rfl ld12 ?_
      refine v_iald h 659 660 dL_isSo_659 rfl (mk_at hDn) (vp_in_nI (n := i) (by omega) (by decide)) ?_
      rw [nI_clamp (by omega)]
      refine v_icmp_ne h 660 663 667 dL_isSo_660 rfl (by decide) (fun h660 => absurd ((hA.ln (by omega)).trans (lnF_b (by omega))) h660) (fun h660 => ?_)
      refine v_iconst (v := 1) h 663 664 dL_isSo_663 rfl (by decide) ?_
      refine v_goto h 664 668 dL_isSo_664 (by decide) ?_
      refine v_istore (i := 8) h 668 670 dL_isSo_668 rfl (by decide) (so8 rfl) ?_
      refine v_iinc (i := 12) h 670 673 dL_isSo_670 rfl ld12 (by first | exact iinc1 _ | rfl) (by decide) (so12 rfl) ?_
      refine v_goto h 673 618 dL_isSo_673 (by decide) ?_
      exact V.weakT (ihi (i + 1) (by omega) n652 q652) (And.intro rfl (And.intro rfl (And.intro rfl (And.intro rfl (And.intro rfl (And.intro rfl (And.intro rfl (And.intro rfl trivial))))))))
  have k489 : ∀ nx, n + 1 ≤ nx → V E Γ 1 6 489 [some (.ref D), some (.ref (D + 141)), some (.ref (D + 141 + 1)), some (.ref (D + 141 + 2)), some (.ref (D + 141 + 3)), some (.ref n), some (.int (grI R nc)), none, some (.int 1), none, none, none, none, none] [.double (mcR R nc)] (lw E (D + 141) R (dl E D S0 S1 Sv (nI ks) (nI e) 0 (fun _ => 0) (nx, FA F n (.inl (gI E, 6, .inl (mF R nc)))))) := by
    intro nx hx
    refine v_dstore (i := 10) h 489 491 dL_isSo_489 rfl (by decide) (sl10 rfl) ?_
    refine v_iload (i := 8) h 491 493 dL_isSo_491 rfl ld8 ?_
    refine v_if_eq h 493 496 612 dL_isSo_493 rfl (by decide) (fun h493 => absurd h493 (by decide)) (fun h493 => ?_)
    refine v_aload_n (i := 0) h 496 497 dL_isSo_496 rfl rfl ld0 ?_
    refine v_aload_n (i := 1) h 497 498 dL_isSo_497 rfl rfl ld1 ?_
    refine v_bipush (v := nI 12) h 498 500 dL_isSo_498 rfl (by decide) ?_
    refine v_ldG h 500 501 12 dL_isSo_500 rfl (by omega) ?_
    rw [hI.c12]
    refine v_callS1h h hZ 501 504 dL_isSo_501 rfl cb_Lz_journalOf cs_Lz_journalOf lk_L_130 (rok (by decide) (by decide)) ⟨by decide, by decide⟩ (g_journalOf hD_lw (Cd.lw (fun w => c_journalN (nI_pos (by omega)) (by rw [hI0.c12]; exact nI_le (Nat.le_refl _) (by omega))))) rfl rfl (Nat.le_of_ble_eq_true rfl) (fun n501 hn501 => ?_)
    refine V.nx (k' := 1) (n' := 6) (w' := lw E (D + 141) R (dl E D S0 S1 Sv (nI ks) (nI e) 0 (fun _ => 0) (n501, FA F n (.inl (gI E, 6, .inl (mF R nc)))))) (by decide) (by decide) rfl ?_
    have q501 : n + 1 ≤ n501 := Nat.le_trans hx hn501
    refine v_iconst (v := (-1)) h 504 505 dL_isSo_504 rfl (by decide) ?_
    refine v_icmp_ne h 505 508 612 dL_isSo_505 rfl (by decide) (fun h505 => absurd (by decide) h505) (fun h505 => ?_)
    refine v_aload_n (i := 0) h 508 509 dL_isSo_508 rfl rfl ld0 ?_
    refine v_iconst (v := nI 0) h 509 510 dL_isSo_509 rfl (by decide) ?_
    refine v_callS1h h hZ 510 513 dL_isSo_510 rfl cb_Lz_valueOf cs_Lz_valueOf lk_L_133 (rok (by decide) (by decide)) ⟨by decide, by decide⟩ (g_valueOf hD_lw (Cd.lw (fun w => c_value hI0 (k := 0) (by omega)))) rfl rfl (Nat.le_of_ble_eq_true rfl) (fun n510 hn510 => ?_)
    refine V.nx (k' := 1) (n' := 6) (w' := lw E (D + 141) R (dl E D S0 S1 Sv (nI ks) (nI e) 0 (fun _ => 0) (n510, FA F n (.inl (gI E, 6, .inl (mF R nc)))))) (by decide) (by decide) rfl ?_
    have q510 : n + 1 ≤ n510 := Nat.le_trans q501 hn510
    refine v_aload_n (i := 1) h 513 514 dL_isSo_513 rfl rfl ld1 ?_
    refine v_iconst (v := nI 0) h 514 515 dL_isSo_514 rfl (by decide) ?_
    refine v_ldG h 515 516 0 dL_isSo_515 rfl (by omega) ?_
    refine v_icmp_ne h 516 519 612 dL_isSo_516 rfl (by decide) (fun h516 => absurd (hA.ln (k := 0) (by omega)) h516) (fun h516 => ?_)
    refine v_aload_n (i := 0) h 519 520 dL_isSo_519 rfl rfl ld0 ?_
    refine v_bipush (v := nI 9) h 520 522 dL_isSo_520 rfl (by decide) ?_
    refine v_callS1h h hZ 522 525 dL_isSo_522 rfl cb_Lz_valueOf cs_Lz_valueOf lk_L_133 (rok (by decide) (by decide)) ⟨by decide, by decide⟩ (g_valueOf hD_lw (Cd.lw (fun w => c_value hI0 (k := 9) (by omega)))) rfl rfl (Nat.le_of_ble_eq_true rfl) (fun n522 hn522 => ?_)
    refine V.nx (k' := 1) (n' := 6) (w' := lw E (D + 141) R (dl E D S0 S1 Sv (nI ks) (nI e) 0 (fun _ => 0) (n522, FA F n (.inl (gI E, 6, .inl (mF R nc)))))) (by decide) (by decide) rfl ?_
    have q522 : n + 1 ≤ n522 := Nat.le_trans q510 hn522
    refine v_aload_n (i := 1) h 525 526 dL_isSo_525 rfl rfl ld1 ?_
    refine v_bipush (v := nI 10) h 526 528 dL_isSo_526 rfl (by decide) ?_
    refine v_ldG h 528 529 10 dL_isSo_528 rfl (by omega) ?_
    refine v_icmp_ne h 529 532 612 dL_isSo_529 rfl (by decide) (fun h529 => absurd (hA.ln (k := 9) (by omega)) h529) (fun h529 => ?_)
    refine v_aload_n (i := 0) h 532 533 dL_isSo_532 rfl rfl ld0 ?_
    refine v_bipush (v := nI 10) h 533 535 dL_isSo_533 rfl (by decide) ?_
    refine v_callS1h h hZ 535 538 dL_isSo_535 rfl cb_Lz_valueOf cs_Lz_valueOf lk_L_133 (rok (by decide) (by decide)) ⟨by decide, by decide⟩ (g_valueOf hD_lw (Cd.lw (fun w => c_value hI0 (k := 10) (by omega)))) rfl rfl (Nat.le_of_ble_eq_true rfl) (fun n535 hn535 => ?_)
    refine V.nx (k' := 1) (n' := 6) (w' := lw E (D + 141) R (dl E D S0 S1 Sv (nI ks) (nI e) 0 (fun _ => 0) (n535, FA F n (.inl (gI E, 6, .inl (mF R nc)))))) (by decide) (by decide) rfl ?_
    have q535 : n + 1 ≤ n535 := Nat.le_trans q522 hn535
    refine v_aload_n (i := 1) h 538 539 dL_isSo_538 rfl rfl ld1 ?_
    refine v_bipush (v := nI 11) h 539 541 dL_isSo_539 rfl (by decide) ?_
    refine v_ldG h 541 542 11 dL_isSo_541 rfl (by omega) ?_
    refine v_icmp_ne h 542 545 612 dL_isSo_542 rfl (by decide) (fun h542 => absurd (hA.ln (k := 10) (by omega)) h542) (fun h542 => ?_)
    refine v_aload_n (i := 0) h 545 546 dL_isSo_545 rfl rfl ld0 ?_
    refine v_bipush (v := nI 11) h 546 548 dL_isSo_546 rfl (by decide) ?_
    refine v_callS1h h hZ 548 551 dL_isSo_548 rfl cb_Lz_valueOf cs_Lz_valueOf lk_L_133 (rok (by decide) (by decide)) ⟨by decide, by decide⟩ (g_valueOf hD_lw (Cd.lw (fun w => c_value hI0 (k := 11) (by omega)))) rfl rfl (Nat.le_of_ble_eq_true rfl) (fun n548 hn548 => ?_)
    refine V.nx (k' := 1) (n' := 6) (w' := lw E (D + 141) R (dl E D S0 S1 Sv (nI ks) (nI e) 0 (fun _ => 0) (n548, FA F n (.inl (gI E, 6, .inl (mF R nc)))))) (by decide) (by decide) rfl ?_
    have q548 : n + 1 ≤ n548 := Nat.le_trans q535 hn548
    refine v_iload (i := 6) h 551 553 dL_isSo_551 rfl ld6 ?_
    refine v_icmp_ne h 553 556 612 dL_isSo_553 rfl (by decide) (fun h553 => absurd (hA.ln (k := 11) (by omega)) h553) (fun h553 => ?_)
    refine v_aload_n (i := 0) h 556 557 dL_isSo_556 rfl rfl ld0 ?_
    refine v_bipush (v := nI 7) h 557 559 dL_isSo_557 rfl (by decide) ?_
    refine v_callS1h h hZ 559 562 dL_isSo_559 rfl cb_Lz_valueOf cs_Lz_valueOf lk_L_133 (rok (by decide) (by decide)) ⟨by decide, by decide⟩ (g_valueOf hD_lw (Cd.lw (fun w => c_value hI0 (k := 7) (by omega)))) rfl rfl (Nat.le_of_ble_eq_true rfl) (fun n559 hn559 => ?_)
    refine V.nx (k' := 1) (n' := 6) (w' := lw E (D + 141) R (dl E D S0 S1 Sv (nI ks) (nI e) 0 (fun _ => 0) (n559, FA F n (.inl (gI E, 6, .inl (mF R nc)))))) (by decide) (by decide) rfl ?_
    have q559 : n + 1 ≤ n559 := Nat.le_trans q548 hn559
    refine v_aload (i := 5) h 562 564 dL_isSo_562 rfl ld5 ?_
    refine v_iconst (v := nI 3) h 564 565 dL_isSo_564 rfl (by decide) ?_
    refine v_iald h 565 566 dL_isSo_565 rfl (mk_at hDn) (vp_in_nI (n := 3) (by omega) (by decide)) ?_
    rw [nI_clamp (by omega)]
    refine v_aload (i := 5) h 566 568 dL_isSo_566 rfl ld5 ?_
    refine v_iconst (v := nI 4) h 568 569 dL_isSo_568 rfl (by decide) ?_
    refine v_iald h 569 570 dL_isSo_569 rfl (mk_at hDn) (vp_in_nI (n := 4) (by omega) (by decide)) ?_
    rw [nI_clamp (by omega)]
    refine v_iadd h 570 571 dL_isSo_570 rfl ?_
    refine v_icmp_ne h 571 574 612 dL_isSo_571 rfl (by decide) (fun h571 => absurd ((hA.ln (k := 7) (by omega)).trans eR7) h571) (fun h571 => ?_)
    refine v_aload_n (i := 0) h 574 575 dL_isSo_574 rfl rfl ld0 ?_
    refine v_bipush (v := nI 8) h 575 577 dL_isSo_575 rfl (by decide) ?_
    refine v_callS1h h hZ 577 580 dL_isSo_577 rfl cb_Lz_valueOf cs_Lz_valueOf lk_L_133 (rok (by decide) (by decide)) ⟨by decide, by decide⟩ (g_valueOf hD_lw (Cd.lw (fun w => c_value hI0 (k := 8) (by omega)))) rfl rfl (Nat.le_of_ble_eq_true rfl) (fun n577 hn577 => ?_)
    refine V.nx (k' := 1) (n' := 6) (w' := lw E (D + 141) R (dl E D S0 S1 Sv (nI ks) (nI e) 0 (fun _ => 0) (n577, FA F n (.inl (gI E, 6, .inl (mF R nc)))))) (by decide) (by decide) rfl ?_
    have q577 : n + 1 ≤ n577 := Nat.le_trans q559 hn577
    refine v_aload (i := 5) h 580 582 dL_isSo_580 rfl ld5 ?_
    refine v_iconst (v := nI 5) h 582 583 dL_isSo_582 rfl (by decide) ?_
    refine v_iald h 583 584 dL_isSo_583 rfl (mk_at hDn) (vp_in_nI (n := 5) (by omega) (by decide)) ?_
    rw [nI_clamp (by omega)]
    refine v_icmp_ne h 584 587 612 dL_isSo_584 rfl (by decide) (fun h584 => absurd ((hA.ln (k := 8) (by omega)).trans eR8) h584) (fun h584 => ?_)
    refine v_aload (i := 5) h 587 589 dL_isSo_587 rfl ld5 ?_
    refine v_iconst (v := nI 2) h 589 590 dL_isSo_589 rfl (by decide) ?_
    refine v_iald h 590 591 dL_isSo_590 rfl (mk_at hDn) (vp_in_nI (n := 2) (by omega) (by decide)) ?_
    rw [nI_clamp (by omega)]
    refine v_aload_n (i := 1) h 591 592 dL_isSo_591 rfl rfl ld1 ?_
    refine v_bipush (v := nI 12) h 592 594 dL_isSo_592 rfl (by decide) ?_
    refine v_ldG h 594 595 12 dL_isSo_594 rfl (by omega) ?_
    refine v_icmp_ne h 595 598 612 dL_isSo_595 rfl (by decide) (fun h595 => absurd eE h595) (fun h595 => ?_)
    refine v_aload_n (i := 0) h 598 599 dL_isSo_598 rfl rfl ld0 ?_
    refine v_callV1 h 599 602 dL_isSo_599 rfl cb_X3_meanCold cv_X3_meanCold hD_lw lk_L_136 (rok (by decide) (by decide)) ⟨rfl, rfl⟩ ⟨by decide, by decide⟩ (Cd.lw (fun w => k_meanCold hI0 (mean_ok hI0))) rfl rfl (Nat.le_of_ble_eq_true rfl) ?_
    rw [eM]
    refine v_dload (i := 10) h 602 604 dL_isSo_602 rfl ld10 ?_
    refine v_dcmp h 604 605 dL_isSo_604 rfl ?_
    rw [mean_cmp hI]
    refine v_if_ne h 605 608 612 dL_isSo_605 rfl (by decide) (fun h605 => absurd (by decide) h605) (fun h605 => ?_)
    refine v_iconst (v := 1) h 608 609 dL_isSo_608 rfl (by decide) ?_
    refine v_goto h 609 613 dL_isSo_609 (by decide) ?_
    refine v_istore (i := 8) h 613 615 dL_isSo_613 rfl (by decide) (so8 rfl) ?_
    refine v_iconst (v := 0) h 615 616 dL_isSo_615 rfl (by decide) ?_
    refine v_istore (i := 12) h 616 618 dL_isSo_616 rfl (by decide) (so12 rfl) ?_
    exact V.weakT (loop618 3 0 (by omega) n577 q577) (And.intro rfl (And.intro rfl (And.intro rfl (And.intro rfl (And.intro rfl (And.intro rfl (And.intro rfl (And.intro rfl trivial))))))))
  have k462 : ∀ nx, n + 1 ≤ nx → V E Γ 1 6 462 [some (.ref D), some (.ref (D + 141)), some (.ref (D + 141 + 1)), some (.ref (D + 141 + 2)), some (.ref (D + 141 + 3)), some (.ref n), some (.int (grI R nc)), some (.int (mcS R nc)), some (.int 1), none, none, none, none, none] [] (lw E (D + 141) R (dl E D S0 S1 Sv (nI ks) (nI e) 0 (fun _ => 0) (nx, FA F n (.inl (gI E, 6, .inl (mF R nc)))))) := by
    intro nx hx
    refine v_aload (i := 5) h 462 464 dL_isSo_462 rfl ld5 ?_
    refine v_iconst (v := nI 0) h 464 465 dL_isSo_464 rfl (by decide) ?_
    refine v_iald h 465 466 dL_isSo_465 rfl (mk_at hDn) (vp_in_nI (n := 0) (by omega) (by decide)) ?_
    rw [nI_clamp (by omega)]
    refine v_aload (i := 5) h 466 468 dL_isSo_466 rfl ld5 ?_
    refine v_iconst (v := nI 1) h 468 469 dL_isSo_468 rfl (by decide) ?_
    refine v_iald h 469 470 dL_isSo_469 rfl (mk_at hDn) (vp_in_nI (n := 1) (by omega) (by decide)) ?_
    rw [nI_clamp (by omega)]
    refine v_iadd h 470 471 dL_isSo_470 rfl ?_
    rw [show mF R nc 0 + mF R nc 1 = mcN R nc from (mcN_is hI nc (Nat.le_refl _)).symm]
    refine v_istore (i := 9) h 471 473 dL_isSo_471 rfl (by decide) (so9 rfl) ?_
    refine v_iload (i := 9) h 473 475 dL_isSo_473 rfl ld9 ?_
    refine v_if_ne h 475 478 482 dL_isSo_475 rfl (by decide) (fun h475 => ?_) (fun h475 => ?_)
    · refine v_iload (i := 7) h 482 484 dL_isSo_482 rfl ld7 ?_
      refine v_i2d h 484 485 dL_isSo_484 rfl ?_
      refine v_iload (i := 9) h 485 487 dL_isSo_485 rfl ld9 ?_
      refine v_i2d h 487 488 dL_isSo_487 rfl ?_
      refine v_ddiv h 488 489 dL_isSo_488 rfl (mean_ok hI h475) ?_
      have q := k489 nx hx
      rw [mcR, if_neg h475] at q
      exact V.weakT q (And.intro rfl (And.intro rfl (And.intro rfl (And.intro rfl (And.intro rfl (And.intro rfl (And.intro rfl (And.intro rfl trivial))))))))
    · refine v_dconst0 h 478 479 dL_isSo_478 rfl ?_
      refine v_goto h 479 489 dL_isSo_479 (by decide) ?_
      have q := k489 nx hx
      rw [mcR, if_pos h475] at q
      exact V.weakT q (And.intro rfl (And.intro rfl (And.intro rfl (And.intro rfl (And.intro rfl (And.intro rfl (And.intro rfl (And.intro rfl trivial))))))))
  have loop421 : ∀ d i, i + d = ne → ∀ nx, n + 1 ≤ nx → V E Γ 1 6 421 [some (.ref D), some (.ref (D + 141)), some (.ref (D + 141 + 1)), some (.ref (D + 141 + 2)), some (.ref (D + 141 + 3)), some (.ref n), some (.int (grI R nc)), some (.int (mcS R nc)), some (.int 1), some (.int (nI i)), none, none, none, none] [] (lw E (D + 141) R (dl E D S0 S1 Sv (nI ks) (nI e) 0 (fun _ => 0) (nx, FA F n (.inl (gI E, 6, .inl (mF R nc)))))) := by
    intro d
    induction d with
    | zero =>
      intro i hj nx hx
      obtain rfl : ne = i := by omega
      refine v_iload (i := 9) h 421 423 dL_isSo_421 rfl ld9 ?_
      refine v_aload_n (i := 1) h 423 424 dL_isSo_423 rfl rfl ld1 ?_
      refine v_bipush (v := nI 12) h 424 426 dL_isSo_424 rfl (by decide) ?_
      refine v_ldG h 426 427 12 dL_isSo_426 rfl (by omega) ?_
      rw [hI.c12]
      refine v_icmp_ge h 427 430 462 dL_isSo_427 rfl (by decide) (fun h427 => ?_) (fun h427 => absurd (nI_le (a := ne) (b := ne) (by omega) (by omega)) h427)
      exact V.weakT (k462 nx hx) (And.intro rfl (And.intro rfl (And.intro rfl (And.intro rfl (And.intro rfl (And.intro rfl (And.intro rfl (And.intro rfl (And.intro rfl trivial)))))))))
    | succ d ihi =>
      intro i hj nx hx
      refine v_iload (i := 9) h 421 423 dL_isSo_421 rfl ld9 ?_
      refine v_aload_n (i := 1) h 423 424 dL_isSo_423 rfl rfl ld1 ?_
      refine v_bipush (v := nI 12) h 424 426 dL_isSo_424 rfl (by decide) ?_
      refine v_ldG h 426 427 12 dL_isSo_426 rfl (by omega) ?_
      rw [hI.c12]
      refine v_icmp_ge h 427 430 462 dL_isSo_427 rfl (by decide) (fun h427 => absurd h427 (nI_ge (a := i) (b := ne) (by omega) (by omega))) (fun h427 => ?_)
      refine v_iload (i := 8) h 430 432 dL_isSo_430 rfl ld8 ?_
      refine v_if_eq h 432 435 462 dL_isSo_432 rfl (by decide) (fun h432 => absurd h432 (by decide)) (fun h432 => ?_)
      refine v_aload_n (i := 0) h 435 436 dL_isSo_435 rfl rfl ld0 ?_
      refine v_iload (i := 9) h 436 438 dL_isSo_436 rfl ld9 ?_
      refine v_callS1h h hZ 438 441 dL_isSo_438 rfl cb_Lz_journalOf cs_Lz_journalOf lk_L_130 (rok (by decide) (by decide)) ⟨by decide, by decide⟩ (g_journalOf hD_lw (Cd.lw (fun w => c_journalY hI0 (by omega)))) rfl rfl (Nat.le_of_ble_eq_true rfl) (fun n438 hn438 => ?_)
      refine V.nx (k' := 1) (n' := 6) (w' := lw E (D + 141) R (dl E D S0 S1 Sv (nI ks) (nI e) 0 (fun _ => 0) (n438, FA F n (.inl (gI E, 6, .inl (mF R nc)))))) (by decide) (by decide) rfl ?_
      have q438 : n + 1 ≤ n438 := Nat.le_trans hx hn438
      refine v_aload (i := 4) h 441 443 dL_isSo_441 rfl ld4 ?_
      refine v_iload (i := 9) h 443 445 dL_isSo_443 rfl ld9 ?_
      refine v_ldJ h 445 446 i dL_isSo_445 rfl (by omega) ?_
      refine v_icmp_ne h 446 449 453 dL_isSo_446 rfl (by decide) (fun h446 => absurd (hA.jn (by omega)) h446) (fun h446 => ?_)
      refine v_iconst (v := 1) h 449 450 dL_isSo_449 rfl (by decide) ?_
      refine v_goto h 450 454 dL_isSo_450 (by decide) ?_
      refine v_istore (i := 8) h 454 456 dL_isSo_454 rfl (by decide) (so8 rfl) ?_
      refine v_iinc (i := 9) h 456 459 dL_isSo_456 rfl ld9 (by first | exact iinc1 _ | rfl) (by decide) (so9 rfl) ?_
      refine v_goto h 459 421 dL_isSo_459 (by decide) ?_
      exact V.weakT (ihi (i + 1) (by omega) n438 q438) (And.intro rfl (And.intro rfl (And.intro rfl (And.intro rfl (And.intro rfl (And.intro rfl (And.intro rfl (And.intro rfl (And.intro rfl (And.intro rfl trivial))))))))))
  have loop328 : ∀ d i, i + d = 3 → ∀ nx, n + 1 ≤ nx → V E Γ 1 6 328 [some (.ref D), some (.ref (D + 141)), some (.ref (D + 141 + 1)), some (.ref (D + 141 + 2)), some (.ref (D + 141 + 3)), some (.ref n), some (.int (grI R nc)), some (.int (mcS R nc)), some (.int 1), some (.int (nI i)), none, none, none, none] [] (lw E (D + 141) R (dl E D S0 S1 Sv (nI ks) (nI e) 0 (fun _ => 0) (nx, FA F n (.inl (gI E, 6, .inl (mF R nc)))))) := by
    intro d
    induction d with
    | zero =>
      intro i hj nx hx
      obtain rfl : i = 3 := by omega
      refine v_iload (i := 9) h 328 330 dL_isSo_328 rfl ld9 ?_
      refine v_aload_n (i := 1) h 330 331 dL_isSo_330 rfl rfl ld1 ?_
      refine v_iconst (v := nI 0) h 331 332 dL_isSo_331 rfl (by decide) ?_
      refine v_ldG h 332 333 0 dL_isSo_332 rfl (by omega) ?_
      rw [h0]
      refine v_icmp_ge h 333 336 418 dL_isSo_333 rfl (by decide) (fun h333 => ?_) (fun h333 => absurd (nI_le (a := 3) (b := 3) (by omega) (by omega)) h333)
      refine v_iconst (v := 0) h 418 419 dL_isSo_418 rfl (by decide) ?_
      refine v_istore (i := 9) h 419 421 dL_isSo_419 rfl (by decide) (so9 rfl) ?_
      exact V.weakT (loop421 ne 0 (by omega) nx hx) (And.intro rfl (And.intro rfl (And.intro rfl (And.intro rfl (And.intro rfl (And.intro rfl (And.intro rfl (And.intro rfl (And.intro rfl (And.intro rfl trivial))))))))))
    | succ d ihi =>
      intro i hj nx hx
      refine v_iload (i := 9) h 328 330 dL_isSo_328 rfl ld9 ?_
      refine v_aload_n (i := 1) h 330 331 dL_isSo_330 rfl rfl ld1 ?_
      refine v_iconst (v := nI 0) h 331 332 dL_isSo_331 rfl (by decide) ?_
      refine v_ldG h 332 333 0 dL_isSo_332 rfl (by omega) ?_
      rw [h0]
      refine v_icmp_ge h 333 336 418 dL_isSo_333 rfl (by decide) (fun h333 => absurd h333 (nI_ge (a := i) (b := 3) (by omega) (by omega))) (fun h333 => ?_)
      refine v_iload (i := 8) h 336 338 dL_isSo_336 rfl ld8 ?_
      refine v_if_eq h 338 341 418 dL_isSo_338 rfl (by decide) (fun h338 => absurd h338 (by decide)) (fun h338 => ?_)
      refine v_aload_n (i := 0) h 341 342 dL_isSo_341 rfl rfl ld0 ?_
      refine v_iload (i := 9) h 342 344 dL_isSo_342 rfl ld9 ?_
      refine v_callS1h h hZ 344 347 dL_isSo_344 rfl cb_Lz_chosenAt cs_Lz_chosenAt lk_L_124 (rok (by decide) (by decide)) ⟨by decide, by decide⟩ (g_chosenAt hD_lw (Cd.lw (fun w => c_chosen hI0 (x := nI i) ⟨i, by omega, rfl⟩ (nI_pos (by omega)) (by rw [z0]; exact nI_ge (by omega) (by omega))))) rfl rfl (Nat.le_of_ble_eq_true rfl) (fun n344 hn344 => ?_)
      refine V.nx (k' := 1) (n' := 6) (w' := lw E (D + 141) R (dl E D S0 S1 Sv (nI ks) (nI e) 0 (fun _ => 0) (n344, FA F n (.inl (gI E, 6, .inl (mF R nc)))))) (by decide) (by decide) rfl ?_
      have q344 : n + 1 ≤ n344 := Nat.le_trans hx hn344
      refine v_aload_n (i := 1) h 347 348 dL_isSo_347 rfl rfl ld1 ?_
      refine v_aload_n (i := 2) h 348 349 dL_isSo_348 rfl rfl ld2 ?_
      refine v_iload (i := 9) h 349 351 dL_isSo_349 rfl ld9 ?_
      refine v_callS1 h 351 354 dL_isSo_351 rfl cb_L_choice cs_L_choice lk_L_19 (rok (by decide) (by decide)) ⟨rfl, rfl⟩ ⟨by decide, by decide⟩ (k_choice hI h8 ⟨i, by omega, rfl⟩) rfl rfl (Nat.le_of_ble_eq_true rfl) ?_
      refine v_icmp_ne h 354 357 361 dL_isSo_354 rfl (by decide) (fun h354 => absurd (by rw [hA.gchs (x := nI i) ⟨i, by omega, rfl⟩ hI.InC nc (Nat.le_refl _)]) h354) (fun h354 => ?_)
      refine v_iconst (v := 1) h 357 358 dL_isSo_357 rfl (by decide) ?_
      refine v_goto h 358 362 dL_isSo_358 (by decide) ?_
      refine v_istore (i := 8) h 362 364 dL_isSo_362 rfl (by decide) (so8 rfl) ?_
      refine v_iconst (v := 0) h 364 365 dL_isSo_364 rfl (by decide) ?_
      refine v_istore (i := 10) h 365 367 dL_isSo_365 rfl (by decide) (so10 rfl) ?_
      have loop367 : ∀ d b, b + d = 3 → ∀ nx, n + 1 ≤ nx → V E Γ 1 6 367 [some (.ref D), some (.ref (D + 141)), some (.ref (D + 141 + 1)), some (.ref (D + 141 + 2)), some (.ref (D + 141 + 3)), some (.ref n), some (.int (grI R nc)), some (.int (mcS R nc)), some (.int 1), some (.int (nI i)), some (.int (nI b)), none, none, none] [] (lw E (D + 141) R (dl E D S0 S1 Sv (nI ks) (nI e) 0 (fun _ => 0) (nx, FA F n (.inl (gI E, 6, .inl (mF R nc)))))) := by
        intro d
        induction d with
        | zero =>
          intro b hj nx hx
          obtain rfl : b = 3 := by omega
          refine v_iload (i := 10) h 367 369 dL_isSo_367 rfl ld10 ?_
          refine v_aload_n (i := 1) h 369 370 dL_isSo_369 rfl rfl ld1 ?_
          refine v_iconst (v := nI 0) h 370 371 dL_isSo_370 rfl (by decide) ?_
          refine v_ldG h 371 372 0 dL_isSo_371 rfl (by omega) ?_
          rw [h0]
          refine v_icmp_ge h 372 375 412 dL_isSo_372 rfl (by decide) (fun h372 => ?_) (fun h372 => absurd (nI_le (a := 3) (b := 3) (by omega) (by omega)) h372)
          refine v_iinc (i := 9) h 412 415 dL_isSo_412 rfl ld9 (by first | exact iinc1 _ | rfl) (by decide) (so9 rfl) ?_
          refine v_goto h 415 328 dL_isSo_415 (by decide) ?_
          exact V.weakT (ihi (i + 1) (by omega) nx hx) (And.intro rfl (And.intro rfl (And.intro rfl (And.intro rfl (And.intro rfl (And.intro rfl (And.intro rfl (And.intro rfl (And.intro rfl (And.intro rfl trivial))))))))))
        | succ d ihb =>
          intro b hj nx hx
          refine v_iload (i := 10) h 367 369 dL_isSo_367 rfl ld10 ?_
          refine v_aload_n (i := 1) h 369 370 dL_isSo_369 rfl rfl ld1 ?_
          refine v_iconst (v := nI 0) h 370 371 dL_isSo_370 rfl (by decide) ?_
          refine v_ldG h 371 372 0 dL_isSo_371 rfl (by omega) ?_
          rw [h0]
          refine v_icmp_ge h 372 375 412 dL_isSo_372 rfl (by decide) (fun h372 => absurd h372 (nI_ge (a := b) (b := 3) (by omega) (by omega))) (fun h372 => ?_)
          refine v_iload (i := 8) h 375 377 dL_isSo_375 rfl ld8 ?_
          refine v_if_eq h 377 380 403 dL_isSo_377 rfl (by decide) (fun h377 => absurd h377 (by decide)) (fun h377 => ?_)
          refine v_aload_n (i := 0) h 380 381 dL_isSo_380 rfl rfl ld0 ?_
          refine v_iload (i := 9) h 381 383 dL_isSo_381 rfl ld9 ?_
          refine v_iload (i := 10) h 383 385 dL_isSo_383 rfl ld10 ?_
          refine v_callS1h h hZ 385 388 dL_isSo_385 rfl cb_Lz_wayOf cs_Lz_wayOf lk_L_127 (rok (by decide) (by decide)) ⟨by decide, by decide⟩ (g_wayOf hD_lw (Cd.lw (fun w => c_way (nI_pos (by omega)) (by rw [z0]; exact nI_ge (by omega) (by omega)) (nI_pos (by omega)) (by rw [z0]; exact nI_ge (by omega) (by omega)) ⟨i, by omega, rfl⟩ ⟨b, by omega, rfl⟩))) rfl rfl (Nat.le_of_ble_eq_true rfl) (fun n385 hn385 => ?_)
          refine V.nx (k' := 1) (n' := 6) (w' := lw E (D + 141) R (dl E D S0 S1 Sv (nI ks) (nI e) 0 (fun _ => 0) (n385, FA F n (.inl (gI E, 6, .inl (mF R nc)))))) (by decide) (by decide) rfl ?_
          have q385 : n + 1 ≤ n385 := Nat.le_trans hx hn385
          refine v_aload_n (i := 1) h 388 389 dL_isSo_388 rfl rfl ld1 ?_
          refine v_iload (i := 9) h 389 391 dL_isSo_389 rfl ld9 ?_
          refine v_iload (i := 10) h 391 393 dL_isSo_391 rfl ld10 ?_
          refine v_callS1 h 393 396 dL_isSo_393 rfl cb_L_far cs_L_far lk_L_9 (rok (by decide) (by decide)) ⟨rfl, rfl⟩ ⟨by decide, by decide⟩ (k_far ⟨i, by omega, rfl⟩ ⟨b, by omega, rfl⟩) rfl rfl (Nat.le_of_ble_eq_true rfl) ?_
          refine v_icmp_ne h 396 399 403 dL_isSo_396 rfl (by decide) (fun h396 => absurd (hA.way ⟨i, by omega, rfl⟩ ⟨b, by omega, rfl⟩) h396) (fun h396 => ?_)
          refine v_iconst (v := 1) h 399 400 dL_isSo_399 rfl (by decide) ?_
          refine v_goto h 400 404 dL_isSo_400 (by decide) ?_
          refine v_istore (i := 8) h 404 406 dL_isSo_404 rfl (by decide) (so8 rfl) ?_
          refine v_iinc (i := 10) h 406 409 dL_isSo_406 rfl ld10 (by first | exact iinc1 _ | rfl) (by decide) (so10 rfl) ?_
          refine v_goto h 409 367 dL_isSo_409 (by decide) ?_
          exact V.weakT (ihb (b + 1) (by omega) n385 q385) (And.intro rfl (And.intro rfl (And.intro rfl (And.intro rfl (And.intro rfl (And.intro rfl (And.intro rfl (And.intro rfl (And.intro rfl (And.intro rfl (And.intro rfl trivial)))))))))))
      exact V.weakT (loop367 3 0 (by omega) n344 q344) (And.intro rfl (And.intro rfl (And.intro rfl (And.intro rfl (And.intro rfl (And.intro rfl (And.intro rfl (And.intro rfl (And.intro rfl (And.intro rfl (And.intro rfl trivial)))))))))))
  have loop274 : ∀ d i, i + d = 8 * nt → ∀ nx, n + 1 ≤ nx → V E Γ 1 6 274 [some (.ref D), some (.ref (D + 141)), some (.ref (D + 141 + 1)), some (.ref (D + 141 + 2)), some (.ref (D + 141 + 3)), some (.ref n), some (.int (grI R nc)), some (.int (mcS R nc)), some (.int 1), some (.int (nI i)), none, none, none, none] [] (lw E (D + 141) R (dl E D S0 S1 Sv (nI ks) (nI e) 0 (fun _ => 0) (nx, FA F n (.inl (gI E, 6, .inl (mF R nc)))))) := by
    intro d
    induction d with
    | zero =>
      intro i hj nx hx
      obtain rfl : i = 8 * nt := by omega
      refine v_iload (i := 9) h 274 276 dL_isSo_274 rfl ld9 ?_
      refine v_bipush (v := nI 8) h 276 278 dL_isSo_276 rfl (by decide) ?_
      refine v_aload_n (i := 1) h 278 279 dL_isSo_278 rfl rfl ld1 ?_
      refine v_bipush (v := nI 8) h 279 281 dL_isSo_279 rfl (by decide) ?_
      refine v_ldG h 281 282 8 dL_isSo_281 rfl (by omega) ?_
      rw [hI.c8]
      refine v_imulN h 282 283 dL_isSo_282 rfl ?_
      refine v_icmp_ge h 283 286 325 dL_isSo_283 rfl (by decide) (fun h283 => ?_) (fun h283 => absurd (nI_le (a := 8 * nt) (b := (8 * nt)) (by omega) (by omega)) h283)
      refine v_iconst (v := 0) h 325 326 dL_isSo_325 rfl (by decide) ?_
      refine v_istore (i := 9) h 326 328 dL_isSo_326 rfl (by decide) (so9 rfl) ?_
      exact V.weakT (loop328 3 0 (by omega) nx hx) (And.intro rfl (And.intro rfl (And.intro rfl (And.intro rfl (And.intro rfl (And.intro rfl (And.intro rfl (And.intro rfl (And.intro rfl (And.intro rfl trivial))))))))))
    | succ d ihi =>
      intro i hj nx hx
      refine v_iload (i := 9) h 274 276 dL_isSo_274 rfl ld9 ?_
      refine v_bipush (v := nI 8) h 276 278 dL_isSo_276 rfl (by decide) ?_
      refine v_aload_n (i := 1) h 278 279 dL_isSo_278 rfl rfl ld1 ?_
      refine v_bipush (v := nI 8) h 279 281 dL_isSo_279 rfl (by decide) ?_
      refine v_ldG h 281 282 8 dL_isSo_281 rfl (by omega) ?_
      rw [hI.c8]
      refine v_imulN h 282 283 dL_isSo_282 rfl ?_
      refine v_icmp_ge h 283 286 325 dL_isSo_283 rfl (by decide) (fun h283 => absurd h283 (nI_ge (a := i) (b := 8 * nt) (by omega) (by omega))) (fun h283 => ?_)
      refine v_iload (i := 8) h 286 288 dL_isSo_286 rfl ld8 ?_
      refine v_if_eq h 288 291 325 dL_isSo_288 rfl (by decide) (fun h288 => absurd h288 (by decide)) (fun h288 => ?_)
      refine v_aload_n (i := 0) h 291 292 dL_isSo_291 rfl rfl ld0 ?_
      refine v_iload (i := 9) h 292 294 dL_isSo_292 rfl ld9 ?_
      refine v_bipush (v := nI 8) h 294 296 dL_isSo_294 rfl (by decide) ?_
      refine v_idivN h 296 297 dL_isSo_296 rfl (by omega) (by omega) (by omega) ?_
      refine v_iload (i := 9) h 297 299 dL_isSo_297 rfl ld9 ?_
      refine v_bipush (v := nI 8) h 299 301 dL_isSo_299 rfl (by decide) ?_
      refine v_iremN h 301 302 dL_isSo_301 rfl (by omega) (by omega) (by omega) ?_
      refine v_callS1h h hZ 302 305 dL_isSo_302 rfl cb_Lz_teamOf cs_Lz_teamOf lk_L_121 (rok (by decide) (by decide)) ⟨by decide, by decide⟩ (g_teamOf hD_lw (Cd.lw (fun w => c_team hI0 (t := i / 8) (k := i % 8) (by omega) (by omega)))) rfl rfl (Nat.le_of_ble_eq_true rfl) (fun n302 hn302 => ?_)
      refine V.nx (k' := 1) (n' := 6) (w' := lw E (D + 141) R (dl E D S0 S1 Sv (nI ks) (nI e) 0 (fun _ => 0) (n302, FA F n (.inl (gI E, 6, .inl (mF R nc)))))) (by decide) (by decide) rfl ?_
      have q302 : n + 1 ≤ n302 := Nat.le_trans hx hn302
      refine v_aload_n (i := 3) h 305 306 dL_isSo_305 rfl rfl ld3 ?_
      refine v_iload (i := 9) h 306 308 dL_isSo_306 rfl ld9 ?_
      refine v_ldQr h 308 309 i dL_isSo_308 rfl (by omega) ?_
      refine v_icmp_ne h 309 312 316 dL_isSo_309 rfl (by decide) (fun h309 => absurd ((hA.tm (t := i / 8) (k := i % 8) (by omega) (by omega)).trans (congrArg R (by omega))) h309) (fun h309 => ?_)
      refine v_iconst (v := 1) h 312 313 dL_isSo_312 rfl (by decide) ?_
      refine v_goto h 313 317 dL_isSo_313 (by decide) ?_
      refine v_istore (i := 8) h 317 319 dL_isSo_317 rfl (by decide) (so8 rfl) ?_
      refine v_iinc (i := 9) h 319 322 dL_isSo_319 rfl ld9 (by first | exact iinc1 _ | rfl) (by decide) (so9 rfl) ?_
      refine v_goto h 322 274 dL_isSo_322 (by decide) ?_
      exact V.weakT (ihi (i + 1) (by omega) n302 q302) (And.intro rfl (And.intro rfl (And.intro rfl (And.intro rfl (And.intro rfl (And.intro rfl (And.intro rfl (And.intro rfl (And.intro rfl (And.intro rfl trivial))))))))))
  have loop18 : ∀ d j, j + d = nc → ∀ nx, n + 1 ≤ nx → V E Γ 1 6 18 [some (.ref D), some (.ref (D + 141)), some (.ref (D + 141 + 1)), some (.ref (D + 141 + 2)), some (.ref (D + 141 + 3)), some (.ref n), some (.int (grI R j)), some (.int (mcS R j)), some (.int 1), some (.int (nI j)), none, none, none, none] [] (lw E (D + 141) R (dl E D S0 S1 Sv (nI ks) (nI e) 0 (fun _ => 0) (nx, FA F n (.inl (gI E, 6, .inl (mF R j)))))) := by
    intro d
    induction d with
    | zero =>
      intro j hj nx hx
      obtain rfl : nc = j := by omega
      refine v_iload (i := 9) h 18 20 dL_isSo_18 rfl ld9 ?_
      refine v_aload_n (i := 1) h 20 21 dL_isSo_20 rfl rfl ld1 ?_
      refine v_bipush (v := nI 7) h 21 23 dL_isSo_21 rfl (by decide) ?_
      refine v_ldG h 23 24 7 dL_isSo_23 rfl (by omega) ?_
      rw [hI.c7]
      refine v_icmp_ge h 24 27 271 dL_isSo_24 rfl (by decide) (fun h24 => ?_) (fun h24 => absurd (nI_le (a := nc) (b := nc) (by omega) (by omega)) h24)
      refine v_iconst (v := 0) h 271 272 dL_isSo_271 rfl (by decide) ?_
      refine v_istore (i := 9) h 272 274 dL_isSo_272 rfl (by decide) (so9 rfl) ?_
      exact V.weakT (loop274 (8 * nt) 0 (by omega) nx hx) (And.intro rfl (And.intro rfl (And.intro rfl (And.intro rfl (And.intro rfl (And.intro rfl (And.intro rfl (And.intro rfl (And.intro rfl (And.intro rfl trivial))))))))))
    | succ d ihj =>
      intro j hj nx hx
      have k131 : ∀ nx, n + 1 ≤ nx → V E Γ 1 6 131 [some (.ref D), some (.ref (D + 141)), some (.ref (D + 141 + 1)), some (.ref (D + 141 + 2)), some (.ref (D + 141 + 3)), some (.ref n), some (.int (grI R (j + 1))), some (.int (mcS R (j + 1))), some (.int 1), some (.int (nI j)), some (.int (nI (8 * j))), some (.int (rkS R j)), none, none] [] (lw E (D + 141) R (dl E D S0 S1 Sv (nI ks) (nI e) 0 (fun _ => 0) (nx, FA F n (.inl (gI E, 6, .inl (mF R (j + 1))))))) := by
        intro nx hx
        have loop217 : ∀ d i, i + d = nt → ∀ nx, n + 1 ≤ nx → V E Γ 1 6 217 [some (.ref D), some (.ref (D + 141)), some (.ref (D + 141 + 1)), some (.ref (D + 141 + 2)), some (.ref (D + 141 + 3)), some (.ref n), some (.int (grI R (j + 1))), some (.int (mcS R (j + 1))), some (.int 1), some (.int (nI j)), some (.int (nI (8 * j))), some (.int (rkS R j)), none, some (.int (nI i))] [] (lw E (D + 141) R (dl E D S0 S1 Sv (nI ks) (nI e) 0 (fun _ => 0) (nx, FA F n (.inl (gI E, 6, .inl (mF R (j + 1))))))) := by
          intro d
          induction d with
          | zero =>
            intro i hj nx hx
            obtain rfl : nt = i := by omega
            refine v_iload (i := 13) h 217 219 dL_isSo_217 rfl ld13 ?_
            refine v_aload_n (i := 1) h 219 220 dL_isSo_219 rfl rfl ld1 ?_
            refine v_bipush (v := nI 8) h 220 222 dL_isSo_220 rfl (by decide) ?_
            refine v_ldG h 222 223 8 dL_isSo_222 rfl (by omega) ?_
            rw [hI.c8]
            refine v_icmp_ge h 223 226 265 dL_isSo_223 rfl (by decide) (fun h223 => ?_) (fun h223 => absurd (nI_le (a := nt) (b := nt) (by omega) (by omega)) h223)
            refine v_iinc (i := 9) h 265 268 dL_isSo_265 rfl ld9 (by first | exact iinc1 _ | rfl) (by decide) (so9 rfl) ?_
            refine v_goto h 268 18 dL_isSo_268 (by decide) ?_
            exact V.weakT (ihj (j + 1) (by omega) nx hx) (And.intro rfl (And.intro rfl (And.intro rfl (And.intro rfl (And.intro rfl (And.intro rfl (And.intro rfl (And.intro rfl (And.intro rfl (And.intro rfl trivial))))))))))
          | succ d ihi =>
            intro i hj nx hx
            refine v_iload (i := 13) h 217 219 dL_isSo_217 rfl ld13 ?_
            refine v_aload_n (i := 1) h 219 220 dL_isSo_219 rfl rfl ld1 ?_
            refine v_bipush (v := nI 8) h 220 222 dL_isSo_220 rfl (by decide) ?_
            refine v_ldG h 222 223 8 dL_isSo_222 rfl (by omega) ?_
            rw [hI.c8]
            refine v_icmp_ge h 223 226 265 dL_isSo_223 rfl (by decide) (fun h223 => absurd h223 (nI_ge (a := i) (b := nt) (by omega) (by omega))) (fun h223 => ?_)
            refine v_iload (i := 8) h 226 228 dL_isSo_226 rfl ld8 ?_
            refine v_if_eq h 228 231 256 dL_isSo_228 rfl (by decide) (fun h228 => absurd h228 (by decide)) (fun h228 => ?_)
            refine v_aload_n (i := 0) h 231 232 dL_isSo_231 rfl rfl ld0 ?_
            refine v_iload (i := 9) h 232 234 dL_isSo_232 rfl ld9 ?_
            refine v_iload (i := 13) h 234 236 dL_isSo_234 rfl ld13 ?_
            refine v_callS1h h hZ 236 239 dL_isSo_236 rfl cb_Lz_workOf cs_Lz_workOf lk_L_118 (rok (by decide) (by decide)) ⟨by decide, by decide⟩ (g_workOf hD_lw (Cd.lw (fun w => c_work hI0 (c := j) (t := i) (by omega) (by omega)))) rfl rfl (Nat.le_of_ble_eq_true rfl) (fun n236 hn236 => ?_)
            refine V.nx (k' := 1) (n' := 6) (w' := lw E (D + 141) R (dl E D S0 S1 Sv (nI ks) (nI e) 0 (fun _ => 0) (n236, FA F n (.inl (gI E, 6, .inl (mF R (j + 1))))))) (by decide) (by decide) rfl ?_
            have q236 : n + 1 ≤ n236 := Nat.le_trans hx hn236
            refine v_aload_n (i := 1) h 239 240 dL_isSo_239 rfl rfl ld1 ?_
            refine v_aload_n (i := 2) h 240 241 dL_isSo_240 rfl rfl ld2 ?_
            refine v_aload_n (i := 3) h 241 242 dL_isSo_241 rfl rfl ld3 ?_
            refine v_iload (i := 9) h 242 244 dL_isSo_242 rfl ld9 ?_
            refine v_iload (i := 13) h 244 246 dL_isSo_244 rfl ld13 ?_
            refine v_callS1 h 246 249 dL_isSo_246 rfl cb_L_work cs_L_work lk_L_15 (rok (by decide) (by decide)) ⟨rfl, rfl⟩ ⟨by decide, by decide⟩ (k_work (c := j) (t := i) hnt (by omega) (by omega) hI.c8 (hI.2.2.1 j (by omega)).2.1 (hI.2.2.2 i (by omega)).2.1) rfl rfl (Nat.le_of_ble_eq_true rfl) ?_
            refine v_icmp_ne h 249 252 256 dL_isSo_249 rfl (by decide) (fun h249 => absurd (hA.wk (by omega) (hA.tm (by omega) (by omega))) h249) (fun h249 => ?_)
            refine v_iconst (v := 1) h 252 253 dL_isSo_252 rfl (by decide) ?_
            refine v_goto h 253 257 dL_isSo_253 (by decide) ?_
            refine v_istore (i := 8) h 257 259 dL_isSo_257 rfl (by decide) (so8 rfl) ?_
            refine v_iinc (i := 13) h 259 262 dL_isSo_259 rfl ld13 (by first | exact iinc1 _ | rfl) (by decide) (so13 rfl) ?_
            refine v_goto h 262 217 dL_isSo_262 (by decide) ?_
            exact V.weakT (ihi (i + 1) (by omega) n236 q236) (And.intro rfl (And.intro rfl (And.intro rfl (And.intro rfl (And.intro rfl (And.intro rfl (And.intro rfl (And.intro rfl (And.intro rfl (And.intro rfl (And.intro rfl (And.intro rfl (And.intro rfl trivial)))))))))))))
        have loop134 : ∀ d i, i + d = 8 → ∀ nx, n + 1 ≤ nx → V E Γ 1 6 134 [some (.ref D), some (.ref (D + 141)), some (.ref (D + 141 + 1)), some (.ref (D + 141 + 2)), some (.ref (D + 141 + 3)), some (.ref n), some (.int (grI R (j + 1))), some (.int (mcS R (j + 1))), some (.int 1), some (.int (nI j)), some (.int (nI (8 * j))), some (.int (rkS R j)), none, some (.int (nI i))] [] (lw E (D + 141) R (dl E D S0 S1 Sv (nI ks) (nI e) 0 (fun _ => 0) (nx, FA F n (.inl (gI E, 6, .inl (mF R (j + 1))))))) := by
          intro d
          induction d with
          | zero =>
            intro i hj nx hx
            obtain rfl : i = 8 := by omega
            refine v_iload (i := 13) h 134 136 dL_isSo_134 rfl ld13 ?_
            refine v_bipush (v := nI 8) h 136 138 dL_isSo_136 rfl (by decide) ?_
            refine v_icmp_ge h 138 141 190 dL_isSo_138 rfl (by decide) (fun h138 => ?_) (fun h138 => absurd (nI_le (a := 8) (b := 8) (by omega) (by omega)) h138)
            refine v_iload (i := 8) h 190 192 dL_isSo_190 rfl ld8 ?_
            refine v_if_eq h 192 195 211 dL_isSo_192 rfl (by decide) (fun h192 => absurd h192 (by decide)) (fun h192 => ?_)
            refine v_aload_n (i := 0) h 195 196 dL_isSo_195 rfl rfl ld0 ?_
            refine v_iload (i := 9) h 196 198 dL_isSo_196 rfl ld9 ?_
            refine v_iconst (v := nI 4) h 198 199 dL_isSo_198 rfl (by decide) ?_
            refine v_callS1h h hZ 199 202 dL_isSo_199 rfl cb_Lz_chairOf cs_Lz_chairOf lk_L_115 (rok (by decide) (by decide)) ⟨by decide, by decide⟩ (g_chairOf hD_lw (Cd.lw (fun w => c_chair hI0 (c := j) (k := 4) (by omega) (by omega)))) rfl rfl (Nat.le_of_ble_eq_true rfl) (fun n199 hn199 => ?_)
            refine V.nx (k' := 1) (n' := 6) (w' := lw E (D + 141) R (dl E D S0 S1 Sv (nI ks) (nI e) 0 (fun _ => 0) (n199, FA F n (.inl (gI E, 6, .inl (mF R (j + 1))))))) (by decide) (by decide) rfl ?_
            have q199 : n + 1 ≤ n199 := Nat.le_trans hx hn199
            refine v_iload (i := 11) h 202 204 dL_isSo_202 rfl ld11 ?_
            refine v_icmp_ne h 204 207 211 dL_isSo_204 rfl (by decide) (fun h204 => absurd ((hA.fact (k := 4) (by omega) (by omega)).trans chF_4) h204) (fun h204 => ?_)
            refine v_iconst (v := 1) h 207 208 dL_isSo_207 rfl (by decide) ?_
            refine v_goto h 208 212 dL_isSo_208 (by decide) ?_
            refine v_istore (i := 8) h 212 214 dL_isSo_212 rfl (by decide) (so8 rfl) ?_
            refine v_iconst (v := 0) h 214 215 dL_isSo_214 rfl (by decide) ?_
            refine v_istore (i := 13) h 215 217 dL_isSo_215 rfl (by decide) (so13 rfl) ?_
            exact V.weakT (loop217 nt 0 (by omega) n199 q199) (And.intro rfl (And.intro rfl (And.intro rfl (And.intro rfl (And.intro rfl (And.intro rfl (And.intro rfl (And.intro rfl (And.intro rfl (And.intro rfl (And.intro rfl (And.intro rfl (And.intro rfl trivial)))))))))))))
          | succ d ihi =>
            intro i hj nx hx
            refine v_iload (i := 13) h 134 136 dL_isSo_134 rfl ld13 ?_
            refine v_bipush (v := nI 8) h 136 138 dL_isSo_136 rfl (by decide) ?_
            refine v_icmp_ge h 138 141 190 dL_isSo_138 rfl (by decide) (fun h138 => absurd h138 (nI_ge (a := i) (b := 8) (by omega) (by omega))) (fun h138 => ?_)
            refine v_iload (i := 8) h 141 143 dL_isSo_141 rfl ld8 ?_
            refine v_if_eq h 143 146 181 dL_isSo_143 rfl (by decide) (fun h143 => absurd h143 (by decide)) (fun h143 => ?_)
            refine v_aload_n (i := 0) h 146 147 dL_isSo_146 rfl rfl ld0 ?_
            refine v_iload (i := 9) h 147 149 dL_isSo_147 rfl ld9 ?_
            refine v_iload (i := 13) h 149 151 dL_isSo_149 rfl ld13 ?_
            refine v_iconst (v := nI 4) h 151 152 dL_isSo_151 rfl (by decide) ?_
            refine v_icmp_ge h 152 155 160 dL_isSo_152 rfl (by decide) (fun h152 => ?_) (fun h152 => ?_)
            · have n152 := (nI_leI (a := 4) (b := i) (by omega) (by omega)).mp h152
              refine v_iload (i := 13) h 160 162 dL_isSo_160 rfl ld13 ?_
              refine v_iconst (v := nI 1) h 162 163 dL_isSo_162 rfl (by decide) ?_
              refine v_iaddN h 163 164 dL_isSo_163 rfl ?_
              refine v_callS1h h hZ 164 167 dL_isSo_164 rfl cb_Lz_chairOf cs_Lz_chairOf lk_L_115 (rok (by decide) (by decide)) ⟨by decide, by decide⟩ (g_chairOf hD_lw (Cd.lw (fun w => c_chair hI0 (c := j) (k := i + 1) (by omega) (by omega)))) rfl rfl (Nat.le_of_ble_eq_true rfl) (fun n164 hn164 => ?_)
              refine V.nx (k' := 1) (n' := 6) (w' := lw E (D + 141) R (dl E D S0 S1 Sv (nI ks) (nI e) 0 (fun _ => 0) (n164, FA F n (.inl (gI E, 6, .inl (mF R (j + 1))))))) (by decide) (by decide) rfl ?_
              have q164 : n + 1 ≤ n164 := Nat.le_trans hx hn164
              refine v_aload_n (i := 2) h 167 168 dL_isSo_167 rfl rfl ld2 ?_
              refine v_iload (i := 10) h 168 170 dL_isSo_168 rfl ld10 ?_
              refine v_iload (i := 13) h 170 172 dL_isSo_170 rfl ld13 ?_
              refine v_iaddN h 172 173 dL_isSo_172 rfl ?_
              refine v_ldE h 173 174 j i dL_isSo_173 rfl (by omega) (by omega) ?_
              refine v_icmp_ne h 174 177 181 dL_isSo_174 rfl (by decide) (fun h174 => absurd ((hA.fact (by omega) (by omega)).trans (chF_hi n152)) h174) (fun h174 => ?_)
              refine v_iconst (v := 1) h 177 178 dL_isSo_177 rfl (by decide) ?_
              refine v_goto h 178 182 dL_isSo_178 (by decide) ?_
              refine v_istore (i := 8) h 182 184 dL_isSo_182 rfl (by decide) (so8 rfl) ?_
              refine v_iinc (i := 13) h 184 187 dL_isSo_184 rfl ld13 (by first | exact iinc1 _ | rfl) (by decide) (so13 rfl) ?_
              refine v_goto h 187 134 dL_isSo_187 (by decide) ?_
              exact V.weakT (ihi (i + 1) (by omega) n164 q164) (And.intro rfl (And.intro rfl (And.intro rfl (And.intro rfl (And.intro rfl (And.intro rfl (And.intro rfl (And.intro rfl (And.intro rfl (And.intro rfl (And.intro rfl (And.intro rfl (And.intro rfl trivial)))))))))))))
            · have n152 := mt (nI_leI (a := 4) (b := i) (by omega) (by omega)).mpr h152
              refine v_iload (i := 13) h 155 157 dL_isSo_155 rfl ld13 ?_
              refine v_goto h 157 164 dL_isSo_157 (by decide) ?_
              refine v_callS1h h hZ 164 167 dL_isSo_164 rfl cb_Lz_chairOf cs_Lz_chairOf lk_L_115 (rok (by decide) (by decide)) ⟨by decide, by decide⟩ (g_chairOf hD_lw (Cd.lw (fun w => c_chair hI0 (c := j) (k := i) (by omega) (by omega)))) rfl rfl (Nat.le_of_ble_eq_true rfl) (fun n164 hn164 => ?_)
              refine V.nx (k' := 1) (n' := 6) (w' := lw E (D + 141) R (dl E D S0 S1 Sv (nI ks) (nI e) 0 (fun _ => 0) (n164, FA F n (.inl (gI E, 6, .inl (mF R (j + 1))))))) (by decide) (by decide) rfl ?_
              have q164 : n + 1 ≤ n164 := Nat.le_trans hx hn164
              refine v_aload_n (i := 2) h 167 168 dL_isSo_167 rfl rfl ld2 ?_
              refine v_iload (i := 10) h 168 170 dL_isSo_168 rfl ld10 ?_
              refine v_iload (i := 13) h 170 172 dL_isSo_170 rfl ld13 ?_
              refine v_iaddN h 172 173 dL_isSo_172 rfl ?_
              refine v_ldE h 173 174 j i dL_isSo_173 rfl (by omega) (by omega) ?_
              refine v_icmp_ne h 174 177 181 dL_isSo_174 rfl (by decide) (fun h174 => absurd ((hA.fact (by omega) (by omega)).trans (chF_lo (Nat.not_le.mp n152))) h174) (fun h174 => ?_)
              refine v_iconst (v := 1) h 177 178 dL_isSo_177 rfl (by decide) ?_
              refine v_goto h 178 182 dL_isSo_178 (by decide) ?_
              refine v_istore (i := 8) h 182 184 dL_isSo_182 rfl (by decide) (so8 rfl) ?_
              refine v_iinc (i := 13) h 184 187 dL_isSo_184 rfl ld13 (by first | exact iinc1 _ | rfl) (by decide) (so13 rfl) ?_
              refine v_goto h 187 134 dL_isSo_187 (by decide) ?_
              exact V.weakT (ihi (i + 1) (by omega) n164 q164) (And.intro rfl (And.intro rfl (And.intro rfl (And.intro rfl (And.intro rfl (And.intro rfl (And.intro rfl (And.intro rfl (And.intro rfl (And.intro rfl (And.intro rfl (And.intro rfl (And.intro rfl trivial)))))))))))))
        refine v_iconst (v := 0) h 131 132 dL_isSo_131 rfl (by decide) ?_
        refine v_istore (i := 13) h 132 134 dL_isSo_132 rfl (by decide) (so13 rfl) ?_
        exact V.weakT (loop134 8 0 (by omega) nx hx) (And.intro rfl (And.intro rfl (And.intro rfl (And.intro rfl (And.intro rfl (And.intro rfl (And.intro rfl (And.intro rfl (And.intro rfl (And.intro rfl (And.intro rfl (And.intro rfl (And.intro rfl trivial)))))))))))))
      refine v_iload (i := 9) h 18 20 dL_isSo_18 rfl ld9 ?_
      refine v_aload_n (i := 1) h 20 21 dL_isSo_20 rfl rfl ld1 ?_
      refine v_bipush (v := nI 7) h 21 23 dL_isSo_21 rfl (by decide) ?_
      refine v_ldG h 23 24 7 dL_isSo_23 rfl (by omega) ?_
      rw [hI.c7]
      refine v_icmp_ge h 24 27 271 dL_isSo_24 rfl (by decide) (fun h24 => absurd h24 (nI_ge (a := j) (b := nc) (by omega) (by omega))) (fun h24 => ?_)
      refine v_iload (i := 8) h 27 29 dL_isSo_27 rfl ld8 ?_
      refine v_if_eq h 29 32 271 dL_isSo_29 rfl (by decide) (fun h29 => absurd h29 (by decide)) (fun h29 => ?_)
      refine v_bipush (v := nI 8) h 32 34 dL_isSo_32 rfl (by decide) ?_
      refine v_iload (i := 9) h 34 36 dL_isSo_34 rfl ld9 ?_
      refine v_imulN h 36 37 dL_isSo_36 rfl ?_
      refine v_istore (i := 10) h 37 39 dL_isSo_37 rfl (by decide) (so10 rfl) ?_
      refine v_aload_n (i := 2) h 39 40 dL_isSo_39 rfl rfl ld2 ?_
      refine v_iload (i := 10) h 40 42 dL_isSo_40 rfl ld10 ?_
      refine v_iconst (v := nI 2) h 42 43 dL_isSo_42 rfl (by decide) ?_
      refine v_iaddN h 43 44 dL_isSo_43 rfl ?_
      refine v_ldE h 44 45 j 2 dL_isSo_44 rfl (by omega) (by omega) ?_
      refine v_iconst (v := 3) h 45 46 dL_isSo_45 rfl (by decide) ?_
      refine v_aload_n (i := 2) h 46 47 dL_isSo_46 rfl rfl ld2 ?_
      refine v_iload (i := 10) h 47 49 dL_isSo_47 rfl ld10 ?_
      refine v_iconst (v := nI 3) h 49 50 dL_isSo_49 rfl (by decide) ?_
      refine v_iaddN h 50 51 dL_isSo_50 rfl ?_
      refine v_ldE h 51 52 j 3 dL_isSo_51 rfl (by omega) (by omega) ?_
      refine v_imul h 52 53 dL_isSo_52 rfl ?_
      refine v_iadd h 53 54 dL_isSo_53 rfl ?_
      rw [rk3 (hI.chz j (by omega))]
      refine v_istore (i := 11) h 54 56 dL_isSo_54 rfl (by decide) (so11 rfl) ?_
      refine v_aload_n (i := 2) h 56 57 dL_isSo_56 rfl rfl ld2 ?_
      refine v_iload (i := 10) h 57 59 dL_isSo_57 rfl ld10 ?_
      refine v_iconst (v := nI 4) h 59 60 dL_isSo_59 rfl (by decide) ?_
      refine v_iaddN h 60 61 dL_isSo_60 rfl ?_
      refine v_ldE h 61 62 j 4 dL_isSo_61 rfl (by omega) (by omega) ?_
      rcases (hI.2.2.1 j (by omega)).2.2.2.2 with hs | hs | hs
      · have hs' : R (13 + 8 * j + 4) = nI 0 := hs
        rw [hs']
        refine v_istore (i := 12) h 62 64 dL_isSo_62 rfl (by decide) (so12 rfl) ?_
        refine v_aload (i := 5) h 64 66 dL_isSo_64 rfl ld5 ?_
        refine v_iload (i := 12) h 66 68 dL_isSo_66 rfl ld12 ?_
        refine v_dup2 h 68 69 dL_isSo_68 rfl rfl rfl ?_
        refine v_iald h 69 70 dL_isSo_69 rfl (mk_at hDn) (vp_in_nI (n := 0) (by omega) (by decide)) ?_
        rw [nI_clamp (by omega)]
        refine v_iconst (v := 1) h 70 71 dL_isSo_70 rfl (by decide) ?_
        refine v_iadd h 71 72 dL_isSo_71 rfl ?_
        refine v_iast h 72 73 dL_isSo_72 rfl (mk_at hDn) (vp_in_nI (n := 0) (by omega) (by decide)) ?_
        rw [nI_clamp (by omega), mk_up hDn]
        refine v_aload (i := 5) h 73 75 dL_isSo_73 rfl ld5 ?_
        refine v_iconst (v := nI 3) h 75 76 dL_isSo_75 rfl (by decide) ?_
        refine v_iload (i := 12) h 76 78 dL_isSo_76 rfl ld12 ?_
        refine v_iaddN h 78 79 dL_isSo_78 rfl ?_
        refine v_dup2 h 79 80 dL_isSo_79 rfl rfl rfl ?_
        refine v_iald h 80 81 dL_isSo_80 rfl (mk_at hDn) (vp_in_nI (n := 3 + 0) (by omega) (by decide)) ?_
        rw [nI_clamp (by omega)]
        refine v_aload_n (i := 2) h 81 82 dL_isSo_81 rfl rfl ld2 ?_
        refine v_iload (i := 10) h 82 84 dL_isSo_82 rfl ld10 ?_
        refine v_iconst (v := nI 1) h 84 85 dL_isSo_84 rfl (by decide) ?_
        refine v_iaddN h 85 86 dL_isSo_85 rfl ?_
        refine v_ldE h 86 87 j 1 dL_isSo_86 rfl (by omega) (by omega) ?_
        refine v_iadd h 87 88 dL_isSo_87 rfl ?_
        refine v_iast h 88 89 dL_isSo_88 rfl (mk_at hDn) (vp_in_nI (n := 3 + 0) (by omega) (by decide)) ?_
        rw [nI_clamp (by omega), mk_up hDn, mF_s (s := 0) (by omega) hs']
        refine v_iload (i := 12) h 89 91 dL_isSo_89 rfl ld12 ?_
        refine v_if_ne h 91 94 106 dL_isSo_91 rfl (by decide) (fun h91 => absurd (congrArg nI (show 0 = 0 by omega)) h91) (fun h91 => ?_)
        refine v_iload (i := 11) h 94 96 dL_isSo_94 rfl ld11 ?_
        refine v_iload (i := 6) h 96 98 dL_isSo_96 rfl ld6 ?_
        refine v_tern 108 106 101 (fun a b => v_icmp_le h 98 101 106 dL_isSo_98 rfl (by decide) a b) (fun kk => v_iload (i := 6) h 106 108 dL_isSo_106 rfl ld6 kk) (fun kk => v_iload (i := 11) h 101 103 dL_isSo_101 rfl ld11 (v_goto h 103 108 dL_isSo_103 (by decide) kk)) ?_
        rw [gr_s hs']
        refine v_istore (i := 6) h 108 110 dL_isSo_108 rfl (by decide) (so6 rfl) ?_
        refine v_iload (i := 7) h 110 112 dL_isSo_110 rfl ld7 ?_
        refine v_iload (i := 12) h 112 114 dL_isSo_112 rfl ld12 ?_
        refine v_iconst (v := nI 2) h 114 115 dL_isSo_114 rfl (by decide) ?_
        refine v_icmp_ge h 115 118 127 dL_isSo_115 rfl (by decide) (fun h115 => absurd h115 (nI_ge (a := 0) (b := 2) (by omega) (by omega))) (fun h115 => ?_)
        refine v_aload_n (i := 2) h 118 119 dL_isSo_118 rfl rfl ld2 ?_
        refine v_iload (i := 10) h 119 121 dL_isSo_119 rfl ld10 ?_
        refine v_iconst (v := nI 2) h 121 122 dL_isSo_121 rfl (by decide) ?_
        refine v_iaddN h 122 123 dL_isSo_122 rfl ?_
        refine v_ldE h 123 124 j 2 dL_isSo_123 rfl (by omega) (by omega) ?_
        refine v_goto h 124 128 dL_isSo_124 (by decide) ?_
        refine v_iadd h 128 129 dL_isSo_128 rfl ?_
        rw [mc_y (by rw [hs]; decide)]
        refine v_istore (i := 7) h 129 131 dL_isSo_129 rfl (by decide) (so7 rfl) ?_
        exact V.weakT (k131 nx hx) (And.intro rfl (And.intro rfl (And.intro rfl (And.intro rfl (And.intro rfl (And.intro rfl (And.intro rfl (And.intro rfl (And.intro rfl (And.intro rfl (And.intro rfl (And.intro rfl trivial))))))))))))
      · have hs' : R (13 + 8 * j + 4) = nI 1 := hs
        rw [hs']
        refine v_istore (i := 12) h 62 64 dL_isSo_62 rfl (by decide) (so12 rfl) ?_
        refine v_aload (i := 5) h 64 66 dL_isSo_64 rfl ld5 ?_
        refine v_iload (i := 12) h 66 68 dL_isSo_66 rfl ld12 ?_
        refine v_dup2 h 68 69 dL_isSo_68 rfl rfl rfl ?_
        refine v_iald h 69 70 dL_isSo_69 rfl (mk_at hDn) (vp_in_nI (n := 1) (by omega) (by decide)) ?_
        rw [nI_clamp (by omega)]
        refine v_iconst (v := 1) h 70 71 dL_isSo_70 rfl (by decide) ?_
        refine v_iadd h 71 72 dL_isSo_71 rfl ?_
        refine v_iast h 72 73 dL_isSo_72 rfl (mk_at hDn) (vp_in_nI (n := 1) (by omega) (by decide)) ?_
        rw [nI_clamp (by omega), mk_up hDn]
        refine v_aload (i := 5) h 73 75 dL_isSo_73 rfl ld5 ?_
        refine v_iconst (v := nI 3) h 75 76 dL_isSo_75 rfl (by decide) ?_
        refine v_iload (i := 12) h 76 78 dL_isSo_76 rfl ld12 ?_
        refine v_iaddN h 78 79 dL_isSo_78 rfl ?_
        refine v_dup2 h 79 80 dL_isSo_79 rfl rfl rfl ?_
        refine v_iald h 80 81 dL_isSo_80 rfl (mk_at hDn) (vp_in_nI (n := 3 + 1) (by omega) (by decide)) ?_
        rw [nI_clamp (by omega)]
        refine v_aload_n (i := 2) h 81 82 dL_isSo_81 rfl rfl ld2 ?_
        refine v_iload (i := 10) h 82 84 dL_isSo_82 rfl ld10 ?_
        refine v_iconst (v := nI 1) h 84 85 dL_isSo_84 rfl (by decide) ?_
        refine v_iaddN h 85 86 dL_isSo_85 rfl ?_
        refine v_ldE h 86 87 j 1 dL_isSo_86 rfl (by omega) (by omega) ?_
        refine v_iadd h 87 88 dL_isSo_87 rfl ?_
        refine v_iast h 88 89 dL_isSo_88 rfl (mk_at hDn) (vp_in_nI (n := 3 + 1) (by omega) (by decide)) ?_
        rw [nI_clamp (by omega), mk_up hDn, mF_s (s := 1) (by omega) hs']
        refine v_iload (i := 12) h 89 91 dL_isSo_89 rfl ld12 ?_
        refine v_if_ne h 91 94 106 dL_isSo_91 rfl (by decide) (fun h91 => ?_) (fun h91 => absurd (nI_inj (a := 1) (b := 0) (by omega) (by omega) h91) (by omega))
        refine v_iload (i := 6) h 106 108 dL_isSo_106 rfl ld6 ?_
        rw [gr_n (by rw [hs]; decide)]
        refine v_istore (i := 6) h 108 110 dL_isSo_108 rfl (by decide) (so6 rfl) ?_
        refine v_iload (i := 7) h 110 112 dL_isSo_110 rfl ld7 ?_
        refine v_iload (i := 12) h 112 114 dL_isSo_112 rfl ld12 ?_
        refine v_iconst (v := nI 2) h 114 115 dL_isSo_114 rfl (by decide) ?_
        refine v_icmp_ge h 115 118 127 dL_isSo_115 rfl (by decide) (fun h115 => absurd h115 (nI_ge (a := 1) (b := 2) (by omega) (by omega))) (fun h115 => ?_)
        refine v_aload_n (i := 2) h 118 119 dL_isSo_118 rfl rfl ld2 ?_
        refine v_iload (i := 10) h 119 121 dL_isSo_119 rfl ld10 ?_
        refine v_iconst (v := nI 2) h 121 122 dL_isSo_121 rfl (by decide) ?_
        refine v_iaddN h 122 123 dL_isSo_122 rfl ?_
        refine v_ldE h 123 124 j 2 dL_isSo_123 rfl (by omega) (by omega) ?_
        refine v_goto h 124 128 dL_isSo_124 (by decide) ?_
        refine v_iadd h 128 129 dL_isSo_128 rfl ?_
        rw [mc_y (by rw [hs]; decide)]
        refine v_istore (i := 7) h 129 131 dL_isSo_129 rfl (by decide) (so7 rfl) ?_
        exact V.weakT (k131 nx hx) (And.intro rfl (And.intro rfl (And.intro rfl (And.intro rfl (And.intro rfl (And.intro rfl (And.intro rfl (And.intro rfl (And.intro rfl (And.intro rfl (And.intro rfl (And.intro rfl trivial))))))))))))
      · have hs' : R (13 + 8 * j + 4) = nI 2 := hs
        rw [hs']
        refine v_istore (i := 12) h 62 64 dL_isSo_62 rfl (by decide) (so12 rfl) ?_
        refine v_aload (i := 5) h 64 66 dL_isSo_64 rfl ld5 ?_
        refine v_iload (i := 12) h 66 68 dL_isSo_66 rfl ld12 ?_
        refine v_dup2 h 68 69 dL_isSo_68 rfl rfl rfl ?_
        refine v_iald h 69 70 dL_isSo_69 rfl (mk_at hDn) (vp_in_nI (n := 2) (by omega) (by decide)) ?_
        rw [nI_clamp (by omega)]
        refine v_iconst (v := 1) h 70 71 dL_isSo_70 rfl (by decide) ?_
        refine v_iadd h 71 72 dL_isSo_71 rfl ?_
        refine v_iast h 72 73 dL_isSo_72 rfl (mk_at hDn) (vp_in_nI (n := 2) (by omega) (by decide)) ?_
        rw [nI_clamp (by omega), mk_up hDn]
        refine v_aload (i := 5) h 73 75 dL_isSo_73 rfl ld5 ?_
        refine v_iconst (v := nI 3) h 75 76 dL_isSo_75 rfl (by decide) ?_
        refine v_iload (i := 12) h 76 78 dL_isSo_76 rfl ld12 ?_
        refine v_iaddN h 78 79 dL_isSo_78 rfl ?_
        refine v_dup2 h 79 80 dL_isSo_79 rfl rfl rfl ?_
        refine v_iald h 80 81 dL_isSo_80 rfl (mk_at hDn) (vp_in_nI (n := 3 + 2) (by omega) (by decide)) ?_
        rw [nI_clamp (by omega)]
        refine v_aload_n (i := 2) h 81 82 dL_isSo_81 rfl rfl ld2 ?_
        refine v_iload (i := 10) h 82 84 dL_isSo_82 rfl ld10 ?_
        refine v_iconst (v := nI 1) h 84 85 dL_isSo_84 rfl (by decide) ?_
        refine v_iaddN h 85 86 dL_isSo_85 rfl ?_
        refine v_ldE h 86 87 j 1 dL_isSo_86 rfl (by omega) (by omega) ?_
        refine v_iadd h 87 88 dL_isSo_87 rfl ?_
        refine v_iast h 88 89 dL_isSo_88 rfl (mk_at hDn) (vp_in_nI (n := 3 + 2) (by omega) (by decide)) ?_
        rw [nI_clamp (by omega), mk_up hDn, mF_s (s := 2) (by omega) hs']
        refine v_iload (i := 12) h 89 91 dL_isSo_89 rfl ld12 ?_
        refine v_if_ne h 91 94 106 dL_isSo_91 rfl (by decide) (fun h91 => ?_) (fun h91 => absurd (nI_inj (a := 2) (b := 0) (by omega) (by omega) h91) (by omega))
        refine v_iload (i := 6) h 106 108 dL_isSo_106 rfl ld6 ?_
        rw [gr_n (by rw [hs]; decide)]
        refine v_istore (i := 6) h 108 110 dL_isSo_108 rfl (by decide) (so6 rfl) ?_
        refine v_iload (i := 7) h 110 112 dL_isSo_110 rfl ld7 ?_
        refine v_iload (i := 12) h 112 114 dL_isSo_112 rfl ld12 ?_
        refine v_iconst (v := nI 2) h 114 115 dL_isSo_114 rfl (by decide) ?_
        refine v_icmp_ge h 115 118 127 dL_isSo_115 rfl (by decide) (fun h115 => ?_) (fun h115 => absurd (nI_le (a := 2) (b := 2) (by omega) (by omega)) h115)
        refine v_iconst (v := 0) h 127 128 dL_isSo_127 rfl (by decide) ?_
        refine v_iadd h 128 129 dL_isSo_128 rfl ?_
        rw [mc_n hs]
        refine v_istore (i := 7) h 129 131 dL_isSo_129 rfl (by decide) (so7 rfl) ?_
        exact V.weakT (k131 nx hx) (And.intro rfl (And.intro rfl (And.intro rfl (And.intro rfl (And.intro rfl (And.intro rfl (And.intro rfl (And.intro rfl (And.intro rfl (And.intro rfl (And.intro rfl (And.intro rfl trivial))))))))))))
  refine v_bipush (v := nI 6) h 0 2 dL_isSo_0 rfl (by decide) ?_
  refine v_newI (N := 6) h 2 4 dL_isSo_2 rfl (nI_pos (by omega)) (nI_clamp (by omega)) (by omega) aI ⟨by decide, by decide⟩ ?_
  refine V.nx (k' := 1) (n' := 6) (w' := lw E (D + 141) R (dl E D S0 S1 Sv (nI ks) (nI e) 0 (fun _ => 0) (n + 1, FA F n (.inl (gI E, 6, .inl (mF R 0)))))) (by decide) (by decide) ((mk_new hDn).trans (by rw [mF_0])) ?_
  refine v_astore (i := 5) h 4 6 dL_isSo_4 rfl (by decide) (so5 rfl) ?_
  refine v_iconst (v := (-1)) h 6 7 dL_isSo_6 rfl (by decide) ?_
  refine v_istore (i := 6) h 7 9 dL_isSo_7 rfl (by decide) (so6 rfl) ?_
  refine v_iconst (v := 0) h 9 10 dL_isSo_9 rfl (by decide) ?_
  refine v_istore (i := 7) h 10 12 dL_isSo_10 rfl (by decide) (so7 rfl) ?_
  refine v_iconst (v := 1) h 12 13 dL_isSo_12 rfl (by decide) ?_
  refine v_istore (i := 8) h 13 15 dL_isSo_13 rfl (by decide) (so8 rfl) ?_
  refine v_iconst (v := 0) h 15 16 dL_isSo_15 rfl (by decide) ?_
  refine v_istore (i := 9) h 16 18 dL_isSo_16 rfl (by decide) (so9 rfl) ?_
  exact V.weakT (loop18 nc 0 (by omega) (n + 1) (Nat.le_refl _)) (And.intro rfl (And.intro rfl (And.intro rfl (And.intro rfl (And.intro rfl (And.intro rfl (And.intro rfl (And.intro rfl (And.intro rfl (And.intro rfl trivial))))))))))

