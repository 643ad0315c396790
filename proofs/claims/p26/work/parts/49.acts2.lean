/-! THE LAW'S ACTS: minutes, a chair; all of them -/
set_option maxRecDepth 100000 in
set_option maxHeartbeats 4000000 in
theorem a_pass {E : EE} (hE : E.1.stackTraces = false) {D n : Nat} {S0 S1 R : St} {Sv : Nat → St} {ks e nc nt ne m v c0 : Nat} {F : Nat → Option va_E} (hR : Rl S0 R ks e nc nt ne m) (hv : v < 10000000) (hc0 : c0 = if nc = 0 then 0 else v % nc) : AC E D n S0 S1 Sv ks e R nc v c0 F 519 := by
  obtain ⟨hI, hJ, h8, hm, hA, he, hks⟩ := id hR
  have hnt := hI.n4
  have hn := hI.n14
  have hI0 : Inv S0 3 nc nt ne m := hA.inv hI
  have h0 : R 0 = nI 3 := hI.1.1.1
  have z0 : S0 0 = nI 3 := hI0.1.1.1
  obtain ⟨kk, hkk⟩ : ∃ kk, kk = 1 + v % (if v % 6 = 0 then 60 else 9) := ⟨_, rfl⟩
  have hk60 : 1 ≤ kk ∧ kk ≤ 60 := by
    by_cases q : v % 6 = 0
    · rw [if_pos q] at hkk; omega
    · rw [if_neg q] at hkk; omega
  by_cases hle : m + kk ≤ 5000
  · obtain ⟨ne', hAp, hIp⟩ := pas_ag hA hI kk
    refine ⟨pasS nc nt S0 m kk, S1, va_up Sv e (cpS (Sv e) S0 nc nt), min 4 (ks + 1), (e + 1) % 4, pasS nc nt R m kk, nc, nt, ne', m + kk, ⟨hIp, j2_pas hJ hI kk (by omega), h8, hle, hAp, e4', ks4⟩, fun Γ z h hZ f => ?_⟩
    refine v_iconst (v := nI 1) h 519 520 dL_acts_519 rfl (by decide) ?_
    refine v_iload (i := 6) h 520 522 dL_acts_520 rfl ld6 ?_
    refine v_iload (i := 6) h 522 524 dL_acts_522 rfl ld6 ?_
    refine v_bipush (v := nI 6) h 524 526 dL_acts_524 rfl (by decide) ?_
    refine v_iremN h 526 527 dL_acts_526 rfl (by omega) (by omega) (by omega) ?_
    by_cases q6 : v % 6 = 0
    · rw [if_pos q6] at hkk
      refine v_if_ne h 527 530 535 dL_acts_527 rfl (by decide) (fun h527 => absurd (congrArg nI q6) h527) (fun h527 => ?_)
      refine v_bipush (v := nI 60) h 530 532 dL_acts_530 rfl (by decide) ?_
      refine v_goto h 532 537 dL_acts_532 (by decide) ?_
      refine v_iremN h 537 538 dL_acts_537 rfl (by omega) (by omega) (by omega) ?_
      refine v_iaddN h 538 539 dL_acts_538 rfl ?_
      rw [← hkk]
      refine v_istore (i := 15) h 539 541 dL_acts_539 rfl (by decide) (so15 rfl) ?_
      refine v_aload_n (i := 1) h 541 542 dL_acts_541 rfl rfl ld1 ?_
      refine v_bipush (v := nI 9) h 542 544 dL_acts_542 rfl (by decide) ?_
      refine v_ldG h 544 545 9 dL_acts_544 rfl (by omega) ?_
      try simp (disch := omega) only [upd_ne, upd_self]
      rw [hI.c9]
      refine v_iload (i := 15) h 545 547 dL_acts_545 rfl ld15 ?_
      refine v_iaddN h 547 548 dL_acts_547 rfl ?_
      refine v_sipush (v := nI 5000) h 548 551 dL_acts_548 rfl (by decide) ?_
      refine v_icmp_le h 551 554 571 dL_acts_551 rfl (by decide) (fun h551 => ?_) (fun h551 => absurd (nI_le (a := m + kk) (b := 5000) (by omega) (by omega)) h551)
      refine v_aload_n (i := 1) h 571 572 dL_acts_571 rfl rfl ld1 ?_
      refine v_bipush (v := nI 12) h 572 574 dL_acts_572 rfl (by decide) ?_
      refine v_ldG h 574 575 12 dL_acts_574 rfl (by omega) ?_
      try simp (disch := omega) only [upd_ne, upd_self]
      refine v_istore (i := 16) h 575 577 dL_acts_575 rfl (by decide) (so16 rfl) ?_
      refine v_iconst (v := 0) h 577 578 dL_acts_577 rfl (by decide) ?_
      refine v_istore (i := 17) h 578 580 dL_acts_578 rfl (by decide) (so17 rfl) ?_
      have loop580 : ∀ d j, j + d = kk → V E Γ 0 0 580 [some (.ref D), some (.ref (D + 141)), some (.ref (D + 141 + 1)), some (.ref (D + 141 + 2)), some (.ref (D + 141 + 3)), none, none, none, none, none, none, none, none, none, none, some (.int (nI kk)), some (.int (R 12)), some (.int (nI j))] [] (lw E (D + 141) (pasS nc nt R m j) (dl E D S0 S1 Sv (nI ks) (nI e) 0 (fun _ => 0) (n, F))) := by
        intro d
        induction d with
        | zero =>
          intro j hj
          obtain rfl : kk = j := by omega
          refine v_iload (i := 17) h 580 582 dL_acts_580 rfl ld17 ?_
          refine v_iload (i := 15) h 582 584 dL_acts_582 rfl ld15 ?_
          refine v_icmp_ge h 584 587 601 dL_acts_584 rfl (by decide) (fun h584 => ?_) (fun h584 => absurd (nI_le (a := kk) (b := kk) (by omega) (by omega)) h584)
          refine v_aload_n (i := 0) h 601 602 dL_acts_601 rfl rfl ld0 ?_
          refine v_iload (i := 15) h 602 604 dL_acts_602 rfl ld15 ?_
          refine v_callS1h h hZ 604 607 dL_acts_604 rfl cb_Lz_passes cs_Lz_passes lk_L_45 (rok (by decide) (by decide)) ⟨by decide, by decide⟩ (g_passes hD_lw (Cd.lw (fun w => c_pass he hks hI0 (k := kk) (nI_nlt (b := 1) (by omega) (by omega)) (nI_nlt (a := 500) (by omega) (by omega)) (by rw [hI0.c9, nI_add]; exact nI_le (b := 5000) hle (by omega)) (by omega) hm))) rfl rfl (Nat.le_of_ble_eq_true rfl) (fun n604 hn604 => ?_)
          refine V.nx (k' := 0) (n' := 0) (w' := lw E (D + 141) (pasS nc nt R m kk) (dl E D (pasS nc nt S0 m kk) S1 (va_up Sv e (cpS (Sv e) S0 nc nt)) (nI (min 4 (ks + 1))) (nI ((e + 1) % 4)) 0 (fun _ => 0) (n604, F))) (by decide) (by decide) rfl ?_
          refine v_aload_n (i := 1) h 607 608 dL_acts_607 rfl rfl ld1 ?_
          refine v_bipush (v := nI 12) h 608 610 dL_acts_608 rfl (by decide) ?_
          refine v_ldG h 610 611 12 dL_acts_610 rfl (by omega) ?_
          try simp (disch := omega) only [upd_ne, upd_self]
          refine v_iload (i := 16) h 611 613 dL_acts_611 rfl ld16 ?_
          refine v_isub h 613 614 dL_acts_613 rfl ?_
          refine v_icmp_ne h 614 617 621 dL_acts_614 rfl (by decide) (fun h614 => absurd (by rw [hAp.lo (by omega), hA.lo (i := 12) (by omega)]) h614) (fun h614 => ?_)
          refine v_iconst (v := 1) h 617 618 dL_acts_617 rfl (by decide) ?_
          refine v_goto h 618 622 dL_acts_618 (by decide) ?_
          exact v_zretz h 622 f dL_acts_622 rfl rfl (by decide) (by decide) rfl hn604 rfl
        | succ d ih =>
          intro j hj
          obtain ⟨ne2, hIj⟩ := inv_pas hI j
          refine v_iload (i := 17) h 580 582 dL_acts_580 rfl ld17 ?_
          refine v_iload (i := 15) h 582 584 dL_acts_582 rfl ld15 ?_
          refine v_icmp_ge h 584 587 601 dL_acts_584 rfl (by decide) (fun h584 => absurd h584 (nI_ge (a := j) (b := kk) (by omega) (by omega))) (fun h584 => ?_)
          refine v_aload_n (i := 1) h 587 588 dL_acts_587 rfl rfl ld1 ?_
          refine v_aload_n (i := 2) h 588 589 dL_acts_588 rfl rfl ld2 ?_
          refine v_aload_n (i := 3) h 589 590 dL_acts_589 rfl rfl ld3 ?_
          refine v_aload (i := 4) h 590 592 dL_acts_590 rfl ld4 ?_
          refine v_callS0 h 592 595 dL_acts_592 rfl cb_L_minute cs_L_minute lk_L_48 (rok (by decide) (by decide)) ⟨rfl, rfl⟩ ⟨Nat.zero_le _, Nat.zero_le _⟩ (k_minute hIj (j2_pas hJ hI j (by omega)) h8 (by omega)) rfl rfl (Nat.le_of_ble_eq_true rfl) ?_
          refine v_iinc (i := 17) h 595 598 dL_acts_595 rfl ld17 (by first | exact iinc1 _ | rfl) (by decide) (so17 rfl) ?_
          refine v_goto h 598 580 dL_acts_598 (by decide) ?_
          have q := ih (j + 1) (by omega)
          rw [show pasS nc nt R m (j + 1) = minS (pasS nc nt R m j) (m + j) nc nt from rfl] at q
          exact V.weakT q (And.intro rfl (And.intro rfl (And.intro rfl (And.intro rfl (And.intro rfl (And.intro rfl (And.intro rfl (And.intro rfl trivial))))))))
      refine V.world (w' := lw E (D + 141) (pasS nc nt R m 0) (dl E D S0 S1 Sv (nI ks) (nI e) 0 (fun _ => 0) (n, F))) rfl ?_
      exact V.weakT (loop580 kk 0 (by omega)) (And.intro rfl (And.intro rfl (And.intro rfl (And.intro rfl (And.intro rfl (And.intro rfl (And.intro rfl (And.intro rfl trivial))))))))
    · rw [if_neg q6] at hkk
      refine v_if_ne h 527 530 535 dL_acts_527 rfl (by decide) (fun h527 => ?_) (fun h527 => absurd (nI_inj (b := 0) (by omega) (by omega) h527) q6)
      refine v_bipush (v := nI 9) h 535 537 dL_acts_535 rfl (by decide) ?_
      refine v_iremN h 537 538 dL_acts_537 rfl (by omega) (by omega) (by omega) ?_
      refine v_iaddN h 538 539 dL_acts_538 rfl ?_
      rw [← hkk]
      refine v_istore (i := 15) h 539 541 dL_acts_539 rfl (by decide) (so15 rfl) ?_
      refine v_aload_n (i := 1) h 541 542 dL_acts_541 rfl rfl ld1 ?_
      refine v_bipush (v := nI 9) h 542 544 dL_acts_542 rfl (by decide) ?_
      refine v_ldG h 544 545 9 dL_acts_544 rfl (by omega) ?_
      try simp (disch := omega) only [upd_ne, upd_self]
      rw [hI.c9]
      refine v_iload (i := 15) h 545 547 dL_acts_545 rfl ld15 ?_
      refine v_iaddN h 547 548 dL_acts_547 rfl ?_
      refine v_sipush (v := nI 5000) h 548 551 dL_acts_548 rfl (by decide) ?_
      refine v_icmp_le h 551 554 571 dL_acts_551 rfl (by decide) (fun h551 => ?_) (fun h551 => absurd (nI_le (a := m + kk) (b := 5000) (by omega) (by omega)) h551)
      refine v_aload_n (i := 1) h 571 572 dL_acts_571 rfl rfl ld1 ?_
      refine v_bipush (v := nI 12) h 572 574 dL_acts_572 rfl (by decide) ?_
      refine v_ldG h 574 575 12 dL_acts_574 rfl (by omega) ?_
      try simp (disch := omega) only [upd_ne, upd_self]
      refine v_istore (i := 16) h 575 577 dL_acts_575 rfl (by decide) (so16 rfl) ?_
      refine v_iconst (v := 0) h 577 578 dL_acts_577 rfl (by decide) ?_
      refine v_istore (i := 17) h 578 580 dL_acts_578 rfl (by decide) (so17 rfl) ?_
      have loop580 : ∀ d j, j + d = kk → V E Γ 0 0 580 [some (.ref D), some (.ref (D + 141)), some (.ref (D + 141 + 1)), some (.ref (D + 141 + 2)), some (.ref (D + 141 + 3)), none, none, none, none, none, none, none, none, none, none, some (.int (nI kk)), some (.int (R 12)), some (.int (nI j))] [] (lw E (D + 141) (pasS nc nt R m j) (dl E D S0 S1 Sv (nI ks) (nI e) 0 (fun _ => 0) (n, F))) := by
        intro d
        induction d with
        | zero =>
          intro j hj
          obtain rfl : kk = j := by omega
          refine v_iload (i := 17) h 580 582 dL_acts_580 rfl ld17 ?_
          refine v_iload (i := 15) h 582 584 dL_acts_582 rfl ld15 ?_
          refine v_icmp_ge h 584 587 601 dL_acts_584 rfl (by decide) (fun h584 => ?_) (fun h584 => absurd (nI_le (a := kk) (b := kk) (by omega) (by omega)) h584)
          refine v_aload_n (i := 0) h 601 602 dL_acts_601 rfl rfl ld0 ?_
          refine v_iload (i := 15) h 602 604 dL_acts_602 rfl ld15 ?_
          refine v_callS1h h hZ 604 607 dL_acts_604 rfl cb_Lz_passes cs_Lz_passes lk_L_45 (rok (by decide) (by decide)) ⟨by decide, by decide⟩ (g_passes hD_lw (Cd.lw (fun w => c_pass he hks hI0 (k := kk) (nI_nlt (b := 1) (by omega) (by omega)) (nI_nlt (a := 500) (by omega) (by omega)) (by rw [hI0.c9, nI_add]; exact nI_le (b := 5000) hle (by omega)) (by omega) hm))) rfl rfl (Nat.le_of_ble_eq_true rfl) (fun n604 hn604 => ?_)
          refine V.nx (k' := 0) (n' := 0) (w' := lw E (D + 141) (pasS nc nt R m kk) (dl E D (pasS nc nt S0 m kk) S1 (va_up Sv e (cpS (Sv e) S0 nc nt)) (nI (min 4 (ks + 1))) (nI ((e + 1) % 4)) 0 (fun _ => 0) (n604, F))) (by decide) (by decide) rfl ?_
          refine v_aload_n (i := 1) h 607 608 dL_acts_607 rfl rfl ld1 ?_
          refine v_bipush (v := nI 12) h 608 610 dL_acts_608 rfl (by decide) ?_
          refine v_ldG h 610 611 12 dL_acts_610 rfl (by omega) ?_
          try simp (disch := omega) only [upd_ne, upd_self]
          refine v_iload (i := 16) h 611 613 dL_acts_611 rfl ld16 ?_
          refine v_isub h 613 614 dL_acts_613 rfl ?_
          refine v_icmp_ne h 614 617 621 dL_acts_614 rfl (by decide) (fun h614 => absurd (by rw [hAp.lo (by omega), hA.lo (i := 12) (by omega)]) h614) (fun h614 => ?_)
          refine v_iconst (v := 1) h 617 618 dL_acts_617 rfl (by decide) ?_
          refine v_goto h 618 622 dL_acts_618 (by decide) ?_
          exact v_zretz h 622 f dL_acts_622 rfl rfl (by decide) (by decide) rfl hn604 rfl
        | succ d ih =>
          intro j hj
          obtain ⟨ne2, hIj⟩ := inv_pas hI j
          refine v_iload (i := 17) h 580 582 dL_acts_580 rfl ld17 ?_
          refine v_iload (i := 15) h 582 584 dL_acts_582 rfl ld15 ?_
          refine v_icmp_ge h 584 587 601 dL_acts_584 rfl (by decide) (fun h584 => absurd h584 (nI_ge (a := j) (b := kk) (by omega) (by omega))) (fun h584 => ?_)
          refine v_aload_n (i := 1) h 587 588 dL_acts_587 rfl rfl ld1 ?_
          refine v_aload_n (i := 2) h 588 589 dL_acts_588 rfl rfl ld2 ?_
          refine v_aload_n (i := 3) h 589 590 dL_acts_589 rfl rfl ld3 ?_
          refine v_aload (i := 4) h 590 592 dL_acts_590 rfl ld4 ?_
          refine v_callS0 h 592 595 dL_acts_592 rfl cb_L_minute cs_L_minute lk_L_48 (rok (by decide) (by decide)) ⟨rfl, rfl⟩ ⟨Nat.zero_le _, Nat.zero_le _⟩ (k_minute hIj (j2_pas hJ hI j (by omega)) h8 (by omega)) rfl rfl (Nat.le_of_ble_eq_true rfl) ?_
          refine v_iinc (i := 17) h 595 598 dL_acts_595 rfl ld17 (by first | exact iinc1 _ | rfl) (by decide) (so17 rfl) ?_
          refine v_goto h 598 580 dL_acts_598 (by decide) ?_
          have q := ih (j + 1) (by omega)
          rw [show pasS nc nt R m (j + 1) = minS (pasS nc nt R m j) (m + j) nc nt from rfl] at q
          exact V.weakT q (And.intro rfl (And.intro rfl (And.intro rfl (And.intro rfl (And.intro rfl (And.intro rfl (And.intro rfl (And.intro rfl trivial))))))))
      refine V.world (w' := lw E (D + 141) (pasS nc nt R m 0) (dl E D S0 S1 Sv (nI ks) (nI e) 0 (fun _ => 0) (n, F))) rfl ?_
      exact V.weakT (loop580 kk 0 (by omega)) (And.intro rfl (And.intro rfl (And.intro rfl (And.intro rfl (And.intro rfl (And.intro rfl (And.intro rfl (And.intro rfl trivial))))))))
  · refine ⟨S0, S1, Sv, ks, e, R, nc, nt, ne, m, hR, fun Γ z h hZ f => ?_⟩
    refine v_iconst (v := nI 1) h 519 520 dL_acts_519 rfl (by decide) ?_
    refine v_iload (i := 6) h 520 522 dL_acts_520 rfl ld6 ?_
    refine v_iload (i := 6) h 522 524 dL_acts_522 rfl ld6 ?_
    refine v_bipush (v := nI 6) h 524 526 dL_acts_524 rfl (by decide) ?_
    refine v_iremN h 526 527 dL_acts_526 rfl (by omega) (by omega) (by omega) ?_
    by_cases q6 : v % 6 = 0
    · rw [if_pos q6] at hkk
      refine v_if_ne h 527 530 535 dL_acts_527 rfl (by decide) (fun h527 => absurd (congrArg nI q6) h527) (fun h527 => ?_)
      refine v_bipush (v := nI 60) h 530 532 dL_acts_530 rfl (by decide) ?_
      refine v_goto h 532 537 dL_acts_532 (by decide) ?_
      refine v_iremN h 537 538 dL_acts_537 rfl (by omega) (by omega) (by omega) ?_
      refine v_iaddN h 538 539 dL_acts_538 rfl ?_
      rw [← hkk]
      refine v_istore (i := 15) h 539 541 dL_acts_539 rfl (by decide) (so15 rfl) ?_
      refine v_aload_n (i := 1) h 541 542 dL_acts_541 rfl rfl ld1 ?_
      refine v_bipush (v := nI 9) h 542 544 dL_acts_542 rfl (by decide) ?_
      refine v_ldG h 544 545 9 dL_acts_544 rfl (by omega) ?_
      try simp (disch := omega) only [upd_ne, upd_self]
      rw [hI.c9]
      refine v_iload (i := 15) h 545 547 dL_acts_545 rfl ld15 ?_
      refine v_iaddN h 547 548 dL_acts_547 rfl ?_
      refine v_sipush (v := nI 5000) h 548 551 dL_acts_548 rfl (by decide) ?_
      refine v_icmp_le h 551 554 571 dL_acts_551 rfl (by decide) (fun h551 => absurd h551 (nI_ge (a := 5000) (b := m + kk) (by omega) (by omega))) (fun h551 => ?_)
      refine v_aload_n (i := 0) h 554 555 dL_acts_554 rfl rfl ld0 ?_
      refine v_iload (i := 15) h 555 557 dL_acts_555 rfl ld15 ?_
      refine v_callS1h h hZ 557 560 dL_acts_557 rfl cb_L_passes cs_L_passes lk_L_45 (rok (by decide) (by decide)) ⟨by decide, by decide⟩ (t_passes3 hD_lw (Cthr.lw (fun w => x_pass2 hE (nI_nlt (b := 1) (by omega) (by omega)) (nI_nlt (a := 500) (by omega) (by omega)) (by rw [hI0.c9, nI_add]; exact nI_ge (a := 5000) (by omega) (by omega))))) rfl rfl (Nat.le_of_ble_eq_true rfl) (fun n557 hn557 => ?_)
      refine V.nx (k' := 1) (n' := 6) (w' := lw E (D + 141) R (dl E D S0 S1 Sv (nI ks) (nI e) 0 (fun _ => 0) (n557, F))) (by decide) (by decide) rfl ?_
      refine v_ldc h 560 562 dL_acts_560 rfl kc_L_36 ?_
      refine v_icmp_ne h 562 565 569 dL_acts_562 rfl (by decide) (fun h562 => absurd (by decide) h562) (fun h562 => ?_)
      refine v_iconst (v := 1) h 565 566 dL_acts_565 rfl (by decide) ?_
      refine v_goto h 566 570 dL_acts_566 (by decide) ?_
      exact v_zretz h 570 f dL_acts_570 rfl rfl (by decide) (by decide) rfl hn557 rfl
    · rw [if_neg q6] at hkk
      refine v_if_ne h 527 530 535 dL_acts_527 rfl (by decide) (fun h527 => ?_) (fun h527 => absurd (nI_inj (b := 0) (by omega) (by omega) h527) q6)
      refine v_bipush (v := nI 9) h 535 537 dL_acts_535 rfl (by decide) ?_
      refine v_iremN h 537 538 dL_acts_537 rfl (by omega) (by omega) (by omega) ?_
      refine v_iaddN h 538 539 dL_acts_538 rfl ?_
      rw [← hkk]
      refine v_istore (i := 15) h 539 541 dL_acts_539 rfl (by decide) (so15 rfl) ?_
      refine v_aload_n (i := 1) h 541 542 dL_acts_541 rfl rfl ld1 ?_
      refine v_bipush (v := nI 9) h 542 544 dL_acts_542 rfl (by decide) ?_
      refine v_ldG h 544 545 9 dL_acts_544 rfl (by omega) ?_
      try simp (disch := omega) only [upd_ne, upd_self]
      rw [hI.c9]
      refine v_iload (i := 15) h 545 547 dL_acts_545 rfl ld15 ?_
      refine v_iaddN h 547 548 dL_acts_547 rfl ?_
      refine v_sipush (v := nI 5000) h 548 551 dL_acts_548 rfl (by decide) ?_
      refine v_icmp_le h 551 554 571 dL_acts_551 rfl (by decide) (fun h551 => absurd h551 (nI_ge (a := 5000) (b := m + kk) (by omega) (by omega))) (fun h551 => ?_)
      refine v_aload_n (i := 0) h 554 555 dL_acts_554 rfl rfl ld0 ?_
      refine v_iload (i := 15) h 555 557 dL_acts_555 rfl ld15 ?_
      refine v_callS1h h hZ 557 560 dL_acts_557 rfl cb_L_passes cs_L_passes lk_L_45 (rok (by decide) (by decide)) ⟨by decide, by decide⟩ (t_passes3 hD_lw (Cthr.lw (fun w => x_pass2 hE (nI_nlt (b := 1) (by omega) (by omega)) (nI_nlt (a := 500) (by omega) (by omega)) (by rw [hI0.c9, nI_add]; exact nI_ge (a := 5000) (by omega) (by omega))))) rfl rfl (Nat.le_of_ble_eq_true rfl) (fun n557 hn557 => ?_)
      refine V.nx (k' := 1) (n' := 6) (w' := lw E (D + 141) R (dl E D S0 S1 Sv (nI ks) (nI e) 0 (fun _ => 0) (n557, F))) (by decide) (by decide) rfl ?_
      refine v_ldc h 560 562 dL_acts_560 rfl kc_L_36 ?_
      refine v_icmp_ne h 562 565 569 dL_acts_562 rfl (by decide) (fun h562 => absurd (by decide) h562) (fun h562 => ?_)
      refine v_iconst (v := 1) h 565 566 dL_acts_565 rfl (by decide) ?_
      refine v_goto h 566 570 dL_acts_566 (by decide) ?_
      exact v_zretz h 570 f dL_acts_570 rfl rfl (by decide) (by decide) rfl hn557 rfl

set_option maxRecDepth 100000 in
set_option maxHeartbeats 4000000 in
theorem a_chair {E : EE} (hE : E.1.stackTraces = false) {D n : Nat} {S0 S1 R : St} {Sv : Nat → St} {ks e nc nt ne m v c0 : Nat} {F : Nat → Option va_E} (hR : Rl S0 R ks e nc nt ne m) (hv : v < 10000000) (hc0 : c0 = if nc = 0 then 0 else v % nc) : AC E D n S0 S1 Sv ks e R nc v c0 F 623 := by
  obtain ⟨hI, hJ, h8, hm, hA, he, hks⟩ := id hR
  have hnt := hI.n4
  have hn := hI.n14
  have hI0 : Inv S0 3 nc nt ne m := hA.inv hI
  have h0 : R 0 = nI 3 := hI.1.1.1
  have z0 : S0 0 = nI 3 := hI0.1.1.1
  by_cases h88 : nc = 8
  · refine ⟨S0, S1, Sv, ks, e, R, nc, nt, ne, m, hR, fun Γ z h hZ f => ?_⟩
    refine v_iload (i := 7) h 623 625 dL_acts_623 rfl ld7 ?_
    refine v_bipush (v := 8) h 625 627 dL_acts_625 rfl (by decide) ?_
    refine v_icmp_ne h 627 630 649 dL_acts_627 rfl (by decide) (fun h627 => absurd (congrArg nI h88) h627) (fun h627 => ?_)
    refine v_aload_n (i := 0) h 630 631 dL_acts_630 rfl rfl ld0 ?_
    refine v_iconst (v := 0) h 631 632 dL_acts_631 rfl (by decide) ?_
    refine v_iconst (v := 5) h 632 633 dL_acts_632 rfl (by decide) ?_
    refine v_iconst (v := 0) h 633 634 dL_acts_633 rfl (by decide) ?_
    refine v_iconst (v := 1) h 634 635 dL_acts_634 rfl (by decide) ?_
    refine v_callS1h h hZ 635 638 dL_acts_635 rfl cb_L_addsChair cs_L_addsChair lk_L_52 (rok (by decide) (by decide)) ⟨by decide, by decide⟩ (t_addsChair2 hD_lw (Cthr.lw (fun w => x_addChair2 hE (by decide) (by rw [z0]; decide) (Or.inr (by decide))))) rfl rfl (Nat.le_of_ble_eq_true rfl) (fun n635 hn635 => ?_)
    refine V.nx (k' := 1) (n' := 6) (w' := lw E (D + 141) R (dl E D S0 S1 Sv (nI ks) (nI e) 0 (fun _ => 0) (n635, F))) (by decide) (by decide) rfl ?_
    refine v_ldc h 638 640 dL_acts_638 rfl kc_L_44 ?_
    refine v_icmp_ne h 640 643 647 dL_acts_640 rfl (by decide) (fun h640 => absurd (by decide) h640) (fun h640 => ?_)
    refine v_iconst (v := 1) h 643 644 dL_acts_643 rfl (by decide) ?_
    refine v_goto h 644 648 dL_acts_644 (by decide) ?_
    exact v_zretz h 648 f dL_acts_648 rfl rfl (by decide) (by decide) rfl hn635 rfl
  · by_cases q2 : v % 2 = 0
    · by_cases q3 : v / 3 % 3 = 0
      · have eR : upd (upd (upd (upd (upd (upd (upd (upd (upd R (13 + 8 * nc + 0) (nI (v % 3))) (13 + 8 * nc + 1) (nI (1 + v / 7 % 4))) (13 + 8 * nc + 2) (nI (v / 28 % 21))) (13 + 8 * nc + 3) 1) (13 + 8 * nc + 4) 0) (13 + 8 * nc + 5) (-1)) (13 + 8 * nc + 6) (-1)) (13 + 8 * nc + 7) (-1)) 7 (nI (nc + 1)) = hangS (upd R 7 (nI (nc + 1))) nc (nI (v % 3)) (nI (1 + v / 7 % 4)) (nI (v / 28 % 21)) 1 := by
          unfold hangS waitS
          funext i
          by_cases q0 : i = 7
          · subst q0
            simp (disch := omega) only [upd_self, upd_ne]
          by_cases q1 : i = 13 + 8 * nc + 0
          · subst q1
            simp (disch := omega) only [upd_self, upd_ne]
          by_cases q2 : i = 13 + 8 * nc + 1
          · subst q2
            simp (disch := omega) only [upd_self, upd_ne]
          by_cases q3 : i = 13 + 8 * nc + 2
          · subst q3
            simp (disch := omega) only [upd_self, upd_ne]
          by_cases q4 : i = 13 + 8 * nc + 3
          · subst q4
            simp (disch := omega) only [upd_self, upd_ne]
          by_cases q5 : i = 13 + 8 * nc + 4
          · subst q5
            simp (disch := omega) only [upd_self, upd_ne]
          by_cases q6 : i = 13 + 8 * nc + 5
          · subst q6
            simp (disch := omega) only [upd_self, upd_ne]
          by_cases q7 : i = 13 + 8 * nc + 6
          · subst q7
            simp (disch := omega) only [upd_self, upd_ne]
          by_cases q8 : i = 13 + 8 * nc + 7
          · subst q8
            simp (disch := omega) only [upd_self, upd_ne]
          simp (disch := omega) only [upd_ne]
        have q0 : (hangS (upd R 7 (nI (nc + 1))) nc (nI (v % 3)) (nI (1 + v / 7 % 4)) (nI (v / 28 % 21)) 1) (13 + 8 * nc + 0) = nI (v % 3) := by unfold hangS waitS; simp (disch := omega) only [upd_ne, upd_self]
        have q1 : (hangS (upd R 7 (nI (nc + 1))) nc (nI (v % 3)) (nI (1 + v / 7 % 4)) (nI (v / 28 % 21)) 1) (13 + 8 * nc + 1) = nI (1 + v / 7 % 4) := by unfold hangS waitS; simp (disch := omega) only [upd_ne, upd_self]
        have q2v : (hangS (upd R 7 (nI (nc + 1))) nc (nI (v % 3)) (nI (1 + v / 7 % 4)) (nI (v / 28 % 21)) 1) (13 + 8 * nc + 2) = nI (v / 28 % 21) := by unfold hangS waitS; simp (disch := omega) only [upd_ne, upd_self]
        refine ⟨hangS (upd S0 7 (nI (nc + 1))) nc (nI (v % 3)) (nI (1 + v / 7 % 4)) (nI (v / 28 % 21)) 1, S1, va_up Sv e (cpS (Sv e) S0 nc nt), min 4 (ks + 1), (e + 1) % 4, hangS (upd R 7 (nI (nc + 1))) nc (nI (v % 3)) (nI (1 + v / 7 % 4)) (nI (v / 28 % 21)) 1, nc + 1, nt, ne, m, ⟨inv_addC hI (by omega) (by omega) (by omega) (by omega) (by omega) (by decide), ⟨fun c hc => by
            by_cases q : c = nc
            · subst q
              unfold hangS waitS
              simp (disch := omega) only [upd_ne, upd_self]
              exact ⟨Or.inl rfl, Or.inl rfl⟩
            · rw [hangS_ne (by omega), hangS_ne (by omega), upd_ne _ _ (by omega), upd_ne _ _ (by omega)]; exact hJ.1 c (by omega), fun t ht => by rw [hangS_ne (by omega), hangS_ne (by omega), upd_ne _ _ (by omega), upd_ne _ _ (by omega)]; exact hJ.2 t ht⟩, by omega, hm, hA.hang _ _ _ _ _, e4', ks4⟩, fun Γ z h hZ f => ?_⟩
        refine v_iload (i := 7) h 623 625 dL_acts_623 rfl ld7 ?_
        refine v_bipush (v := 8) h 625 627 dL_acts_625 rfl (by decide) ?_
        refine v_icmp_ne h 627 630 649 dL_acts_627 rfl (by decide) (fun h627 => ?_) (fun h627 => absurd (nI_inj (b := 8) (by omega) (by omega) h627) h88)
        refine v_bipush (v := nI 8) h 649 651 dL_acts_649 rfl (by decide) ?_
        refine v_iload (i := 7) h 651 653 dL_acts_651 rfl ld7 ?_
        refine v_imulN h 653 654 dL_acts_653 rfl ?_
        refine v_istore (i := 17) h 654 656 dL_acts_654 rfl (by decide) (so17 rfl) ?_
        refine v_aload_n (i := 2) h 656 657 dL_acts_656 rfl rfl ld2 ?_
        refine v_iload (i := 17) h 657 659 dL_acts_657 rfl ld17 ?_
        refine v_iload (i := 6) h 659 661 dL_acts_659 rfl ld6 ?_
        refine v_aload_n (i := 1) h 661 662 dL_acts_661 rfl rfl ld1 ?_
        refine v_iconst (v := nI 0) h 662 663 dL_acts_662 rfl (by decide) ?_
        refine v_ldG h 663 664 0 dL_acts_663 rfl (by omega) ?_
        try simp (disch := omega) only [upd_ne, upd_self]
        rw [h0]
        refine v_iremN h 664 665 dL_acts_664 rfl (by omega) (by omega) (by omega) ?_
        refine v_stE0 h 665 666 nc dL_acts_665 rfl (by omega) ?_
        refine v_aload_n (i := 2) h 666 667 dL_acts_666 rfl rfl ld2 ?_
        refine v_iload (i := 17) h 667 669 dL_acts_667 rfl ld17 ?_
        refine v_iconst (v := nI 1) h 669 670 dL_acts_669 rfl (by decide) ?_
        refine v_iaddN h 670 671 dL_acts_670 rfl ?_
        refine v_iconst (v := nI 1) h 671 672 dL_acts_671 rfl (by decide) ?_
        refine v_iload (i := 6) h 672 674 dL_acts_672 rfl ld6 ?_
        refine v_bipush (v := nI 7) h 674 676 dL_acts_674 rfl (by decide) ?_
        refine v_idivN h 676 677 dL_acts_676 rfl (by omega) (by omega) (by omega) ?_
        refine v_iconst (v := nI 4) h 677 678 dL_acts_677 rfl (by decide) ?_
        refine v_iremN h 678 679 dL_acts_678 rfl (by omega) (by omega) (by omega) ?_
        refine v_iaddN h 679 680 dL_acts_679 rfl ?_
        refine v_stE h 680 681 nc 1 dL_acts_680 rfl (by omega) (by omega) ?_
        refine v_aload_n (i := 2) h 681 682 dL_acts_681 rfl rfl ld2 ?_
        refine v_iload (i := 17) h 682 684 dL_acts_682 rfl ld17 ?_
        refine v_iconst (v := nI 2) h 684 685 dL_acts_684 rfl (by decide) ?_
        refine v_iaddN h 685 686 dL_acts_685 rfl ?_
        refine v_iload (i := 6) h 686 688 dL_acts_686 rfl ld6 ?_
        refine v_bipush (v := nI 28) h 688 690 dL_acts_688 rfl (by decide) ?_
        refine v_idivN h 690 691 dL_acts_690 rfl (by omega) (by omega) (by omega) ?_
        refine v_iload (i := 6) h 691 693 dL_acts_691 rfl ld6 ?_
        refine v_iconst (v := nI 2) h 693 694 dL_acts_693 rfl (by decide) ?_
        refine v_iremN h 694 695 dL_acts_694 rfl (by omega) (by omega) (by omega) ?_
        refine v_if_ne h 695 698 703 dL_acts_695 rfl (by decide) (fun h695 => absurd (congrArg nI q2) h695) (fun h695 => ?_)
        refine v_bipush (v := nI 21) h 698 700 dL_acts_698 rfl (by decide) ?_
        refine v_goto h 700 705 dL_acts_700 (by decide) ?_
        refine v_iremN h 705 706 dL_acts_705 rfl (by omega) (by omega) (by omega) ?_
        refine v_stE h 706 707 nc 2 dL_acts_706 rfl (by omega) (by omega) ?_
        refine v_aload_n (i := 2) h 707 708 dL_acts_707 rfl rfl ld2 ?_
        refine v_iload (i := 17) h 708 710 dL_acts_708 rfl ld17 ?_
        refine v_iconst (v := nI 3) h 710 711 dL_acts_710 rfl (by decide) ?_
        refine v_iaddN h 711 712 dL_acts_711 rfl ?_
        refine v_iload (i := 6) h 712 714 dL_acts_712 rfl ld6 ?_
        refine v_iconst (v := nI 3) h 714 715 dL_acts_714 rfl (by decide) ?_
        refine v_idivN h 715 716 dL_acts_715 rfl (by omega) (by omega) (by omega) ?_
        refine v_iconst (v := nI 3) h 716 717 dL_acts_716 rfl (by decide) ?_
        refine v_iremN h 717 718 dL_acts_717 rfl (by omega) (by omega) (by omega) ?_
        refine v_if_ne h 718 721 725 dL_acts_718 rfl (by decide) (fun h718 => absurd (congrArg nI q3) h718) (fun h718 => ?_)
        refine v_iconst (v := 1) h 721 722 dL_acts_721 rfl (by decide) ?_
        refine v_goto h 722 726 dL_acts_722 (by decide) ?_
        refine v_stE h 726 727 nc 3 dL_acts_726 rfl (by omega) (by omega) ?_
        refine v_aload_n (i := 2) h 727 728 dL_acts_727 rfl rfl ld2 ?_
        refine v_iload (i := 17) h 728 730 dL_acts_728 rfl ld17 ?_
        refine v_iconst (v := nI 4) h 730 731 dL_acts_730 rfl (by decide) ?_
        refine v_iaddN h 731 732 dL_acts_731 rfl ?_
        refine v_iconst (v := 0) h 732 733 dL_acts_732 rfl (by decide) ?_
        refine v_stE h 733 734 nc 4 dL_acts_733 rfl (by omega) (by omega) ?_
        refine v_aload_n (i := 2) h 734 735 dL_acts_734 rfl rfl ld2 ?_
        refine v_iload (i := 17) h 735 737 dL_acts_735 rfl ld17 ?_
        refine v_iconst (v := nI 5) h 737 738 dL_acts_737 rfl (by decide) ?_
        refine v_iaddN h 738 739 dL_acts_738 rfl ?_
        refine v_iconst (v := (-1)) h 739 740 dL_acts_739 rfl (by decide) ?_
        refine v_stE h 740 741 nc 5 dL_acts_740 rfl (by omega) (by omega) ?_
        refine v_aload_n (i := 2) h 741 742 dL_acts_741 rfl rfl ld2 ?_
        refine v_iload (i := 17) h 742 744 dL_acts_742 rfl ld17 ?_
        refine v_bipush (v := nI 6) h 744 746 dL_acts_744 rfl (by decide) ?_
        refine v_iaddN h 746 747 dL_acts_746 rfl ?_
        refine v_iconst (v := (-1)) h 747 748 dL_acts_747 rfl (by decide) ?_
        refine v_stE h 748 749 nc 6 dL_acts_748 rfl (by omega) (by omega) ?_
        refine v_aload_n (i := 2) h 749 750 dL_acts_749 rfl rfl ld2 ?_
        refine v_iload (i := 17) h 750 752 dL_acts_750 rfl ld17 ?_
        refine v_bipush (v := nI 7) h 752 754 dL_acts_752 rfl (by decide) ?_
        refine v_iaddN h 754 755 dL_acts_754 rfl ?_
        refine v_iconst (v := (-1)) h 755 756 dL_acts_755 rfl (by decide) ?_
        refine v_stE h 756 757 nc 7 dL_acts_756 rfl (by omega) (by omega) ?_
        refine v_aload_n (i := 1) h 757 758 dL_acts_757 rfl rfl ld1 ?_
        refine v_bipush (v := nI 7) h 758 760 dL_acts_758 rfl (by decide) ?_
        refine v_dup2 h 760 761 dL_acts_760 rfl rfl rfl ?_
        refine v_ldG h 761 762 7 dL_acts_761 rfl (by omega) ?_
        try simp (disch := omega) only [upd_ne, upd_self]
        rw [hI.c7]
        refine v_iconst (v := nI 1) h 762 763 dL_acts_762 rfl (by decide) ?_
        refine v_iaddN h 763 764 dL_acts_763 rfl ?_
        refine v_stG h 764 765 7 dL_acts_764 rfl (by omega) ?_
        rw [eR]
        refine v_aload_n (i := 0) h 765 766 dL_acts_765 rfl rfl ld0 ?_
        refine v_aload_n (i := 2) h 766 767 dL_acts_766 rfl rfl ld2 ?_
        refine v_iload (i := 17) h 767 769 dL_acts_767 rfl ld17 ?_
        refine v_ldE0 h 769 770 nc dL_acts_769 rfl (by omega) ?_
        try simp (disch := omega) only [upd_ne, upd_self]
        rw [q0]
        refine v_aload_n (i := 2) h 770 771 dL_acts_770 rfl rfl ld2 ?_
        refine v_iload (i := 17) h 771 773 dL_acts_771 rfl ld17 ?_
        refine v_iconst (v := nI 1) h 773 774 dL_acts_773 rfl (by decide) ?_
        refine v_iaddN h 774 775 dL_acts_774 rfl ?_
        refine v_ldE h 775 776 nc 1 dL_acts_775 rfl (by omega) (by omega) ?_
        try simp (disch := omega) only [upd_ne, upd_self]
        rw [q1]
        refine v_aload_n (i := 2) h 776 777 dL_acts_776 rfl rfl ld2 ?_
        refine v_iload (i := 17) h 777 779 dL_acts_777 rfl ld17 ?_
        refine v_iconst (v := nI 2) h 779 780 dL_acts_779 rfl (by decide) ?_
        refine v_iaddN h 780 781 dL_acts_780 rfl ?_
        refine v_ldE h 781 782 nc 2 dL_acts_781 rfl (by omega) (by omega) ?_
        try simp (disch := omega) only [upd_ne, upd_self]
        rw [q2v]
        refine v_iload (i := 6) h 782 784 dL_acts_782 rfl ld6 ?_
        refine v_iconst (v := nI 3) h 784 785 dL_acts_784 rfl (by decide) ?_
        refine v_idivN h 785 786 dL_acts_785 rfl (by omega) (by omega) (by omega) ?_
        refine v_iconst (v := nI 3) h 786 787 dL_acts_786 rfl (by decide) ?_
        refine v_iremN h 787 788 dL_acts_787 rfl (by omega) (by omega) (by omega) ?_
        refine v_if_ne h 788 791 795 dL_acts_788 rfl (by decide) (fun h788 => absurd (congrArg nI q3) h788) (fun h788 => ?_)
        refine v_iconst (v := 1) h 791 792 dL_acts_791 rfl (by decide) ?_
        refine v_goto h 792 796 dL_acts_792 (by decide) ?_
        refine v_callS1h h hZ 796 799 dL_acts_796 rfl cb_Lz_addsChair cs_Lz_addsChair lk_L_52 (rok (by decide) (by decide)) ⟨by decide, by decide⟩ (g_addsChair hD_lw (Cd.lw (fun w => c_addChair he hks hI0 (nI_pos (by omega)) (by rw [z0]; exact nI_ge (by omega) (by omega)) (nI_nlt (b := 1) (by omega) (by omega)) (nI_nlt (a := 4) (by omega) (by omega)) (nI_pos (by omega)) (nI_nlt (a := 20) (by omega) (by omega)) (by omega) (by decide)))) rfl rfl (Nat.le_of_ble_eq_true rfl) (fun n796 hn796 => ?_)
        refine V.nx (k' := 0) (n' := 0) (w' := lw E (D + 141) (hangS (upd R 7 (nI (nc + 1))) nc (nI (v % 3)) (nI (1 + v / 7 % 4)) (nI (v / 28 % 21)) 1) (dl E D (hangS (upd S0 7 (nI (nc + 1))) nc (nI (v % 3)) (nI (1 + v / 7 % 4)) (nI (v / 28 % 21)) 1) S1 (va_up Sv e (cpS (Sv e) S0 nc nt)) (nI (min 4 (ks + 1))) (nI ((e + 1) % 4)) 0 (fun _ => 0) (n796, F))) (by decide) (by decide) rfl ?_
        refine v_iload (i := 7) h 799 801 dL_acts_799 rfl ld7 ?_
        refine v_icmp_ne h 801 804 808 dL_acts_801 rfl (by decide) (fun h801 => absurd (congrArg nI (show nc = nc by omega)) h801) (fun h801 => ?_)
        refine v_iconst (v := 1) h 804 805 dL_acts_804 rfl (by decide) ?_
        refine v_goto h 805 809 dL_acts_805 (by decide) ?_
        exact v_zretz h 809 f dL_acts_809 rfl rfl (by decide) (by decide) rfl hn796 rfl
      · have eR : upd (upd (upd (upd (upd (upd (upd (upd (upd R (13 + 8 * nc + 0) (nI (v % 3))) (13 + 8 * nc + 1) (nI (1 + v / 7 % 4))) (13 + 8 * nc + 2) (nI (v / 28 % 21))) (13 + 8 * nc + 3) 0) (13 + 8 * nc + 4) 0) (13 + 8 * nc + 5) (-1)) (13 + 8 * nc + 6) (-1)) (13 + 8 * nc + 7) (-1)) 7 (nI (nc + 1)) = hangS (upd R 7 (nI (nc + 1))) nc (nI (v % 3)) (nI (1 + v / 7 % 4)) (nI (v / 28 % 21)) 0 := by
          unfold hangS waitS
          funext i
          by_cases q0 : i = 7
          · subst q0
            simp (disch := omega) only [upd_self, upd_ne]
          by_cases q1 : i = 13 + 8 * nc + 0
          · subst q1
            simp (disch := omega) only [upd_self, upd_ne]
          by_cases q2 : i = 13 + 8 * nc + 1
          · subst q2
            simp (disch := omega) only [upd_self, upd_ne]
          by_cases q3 : i = 13 + 8 * nc + 2
          · subst q3
            simp (disch := omega) only [upd_self, upd_ne]
          by_cases q4 : i = 13 + 8 * nc + 3
          · subst q4
            simp (disch := omega) only [upd_self, upd_ne]
          by_cases q5 : i = 13 + 8 * nc + 4
          · subst q5
            simp (disch := omega) only [upd_self, upd_ne]
          by_cases q6 : i = 13 + 8 * nc + 5
          · subst q6
            simp (disch := omega) only [upd_self, upd_ne]
          by_cases q7 : i = 13 + 8 * nc + 6
          · subst q7
            simp (disch := omega) only [upd_self, upd_ne]
          by_cases q8 : i = 13 + 8 * nc + 7
          · subst q8
            simp (disch := omega) only [upd_self, upd_ne]
          simp (disch := omega) only [upd_ne]
        have q0 : (hangS (upd R 7 (nI (nc + 1))) nc (nI (v % 3)) (nI (1 + v / 7 % 4)) (nI (v / 28 % 21)) 0) (13 + 8 * nc + 0) = nI (v % 3) := by unfold hangS waitS; simp (disch := omega) only [upd_ne, upd_self]
        have q1 : (hangS (upd R 7 (nI (nc + 1))) nc (nI (v % 3)) (nI (1 + v / 7 % 4)) (nI (v / 28 % 21)) 0) (13 + 8 * nc + 1) = nI (1 + v / 7 % 4) := by unfold hangS waitS; simp (disch := omega) only [upd_ne, upd_self]
        have q2v : (hangS (upd R 7 (nI (nc + 1))) nc (nI (v % 3)) (nI (1 + v / 7 % 4)) (nI (v / 28 % 21)) 0) (13 + 8 * nc + 2) = nI (v / 28 % 21) := by unfold hangS waitS; simp (disch := omega) only [upd_ne, upd_self]
        refine ⟨hangS (upd S0 7 (nI (nc + 1))) nc (nI (v % 3)) (nI (1 + v / 7 % 4)) (nI (v / 28 % 21)) 0, S1, va_up Sv e (cpS (Sv e) S0 nc nt), min 4 (ks + 1), (e + 1) % 4, hangS (upd R 7 (nI (nc + 1))) nc (nI (v % 3)) (nI (1 + v / 7 % 4)) (nI (v / 28 % 21)) 0, nc + 1, nt, ne, m, ⟨inv_addC hI (by omega) (by omega) (by omega) (by omega) (by omega) (by decide), ⟨fun c hc => by
            by_cases q : c = nc
            · subst q
              unfold hangS waitS
              simp (disch := omega) only [upd_ne, upd_self]
              exact ⟨Or.inl rfl, Or.inl rfl⟩
            · rw [hangS_ne (by omega), hangS_ne (by omega), upd_ne _ _ (by omega), upd_ne _ _ (by omega)]; exact hJ.1 c (by omega), fun t ht => by rw [hangS_ne (by omega), hangS_ne (by omega), upd_ne _ _ (by omega), upd_ne _ _ (by omega)]; exact hJ.2 t ht⟩, by omega, hm, hA.hang _ _ _ _ _, e4', ks4⟩, fun Γ z h hZ f => ?_⟩
        refine v_iload (i := 7) h 623 625 dL_acts_623 rfl ld7 ?_
        refine v_bipush (v := 8) h 625 627 dL_acts_625 rfl (by decide) ?_
        refine v_icmp_ne h 627 630 649 dL_acts_627 rfl (by decide) (fun h627 => ?_) (fun h627 => absurd (nI_inj (b := 8) (by omega) (by omega) h627) h88)
        refine v_bipush (v := nI 8) h 649 651 dL_acts_649 rfl (by decide) ?_
        refine v_iload (i := 7) h 651 653 dL_acts_651 rfl ld7 ?_
        refine v_imulN h 653 654 dL_acts_653 rfl ?_
        refine v_istore (i := 17) h 654 656 dL_acts_654 rfl (by decide) (so17 rfl) ?_
        refine v_aload_n (i := 2) h 656 657 dL_acts_656 rfl rfl ld2 ?_
        refine v_iload (i := 17) h 657 659 dL_acts_657 rfl ld17 ?_
        refine v_iload (i := 6) h 659 661 dL_acts_659 rfl ld6 ?_
        refine v_aload_n (i := 1) h 661 662 dL_acts_661 rfl rfl ld1 ?_
        refine v_iconst (v := nI 0) h 662 663 dL_acts_662 rfl (by decide) ?_
        refine v_ldG h 663 664 0 dL_acts_663 rfl (by omega) ?_
        try simp (disch := omega) only [upd_ne, upd_self]
        rw [h0]
        refine v_iremN h 664 665 dL_acts_664 rfl (by omega) (by omega) (by omega) ?_
        refine v_stE0 h 665 666 nc dL_acts_665 rfl (by omega) ?_
        refine v_aload_n (i := 2) h 666 667 dL_acts_666 rfl rfl ld2 ?_
        refine v_iload (i := 17) h 667 669 dL_acts_667 rfl ld17 ?_
        refine v_iconst (v := nI 1) h 669 670 dL_acts_669 rfl (by decide) ?_
        refine v_iaddN h 670 671 dL_acts_670 rfl ?_
        refine v_iconst (v := nI 1) h 671 672 dL_acts_671 rfl (by decide) ?_
        refine v_iload (i := 6) h 672 674 dL_acts_672 rfl ld6 ?_
        refine v_bipush (v := nI 7) h 674 676 dL_acts_674 rfl (by decide) ?_
        refine v_idivN h 676 677 dL_acts_676 rfl (by omega) (by omega) (by omega) ?_
        refine v_iconst (v := nI 4) h 677 678 dL_acts_677 rfl (by decide) ?_
        refine v_iremN h 678 679 dL_acts_678 rfl (by omega) (by omega) (by omega) ?_
        refine v_iaddN h 679 680 dL_acts_679 rfl ?_
        refine v_stE h 680 681 nc 1 dL_acts_680 rfl (by omega) (by omega) ?_
        refine v_aload_n (i := 2) h 681 682 dL_acts_681 rfl rfl ld2 ?_
        refine v_iload (i := 17) h 682 684 dL_acts_682 rfl ld17 ?_
        refine v_iconst (v := nI 2) h 684 685 dL_acts_684 rfl (by decide) ?_
        refine v_iaddN h 685 686 dL_acts_685 rfl ?_
        refine v_iload (i := 6) h 686 688 dL_acts_686 rfl ld6 ?_
        refine v_bipush (v := nI 28) h 688 690 dL_acts_688 rfl (by decide) ?_
        refine v_idivN h 690 691 dL_acts_690 rfl (by omega) (by omega) (by omega) ?_
        refine v_iload (i := 6) h 691 693 dL_acts_691 rfl ld6 ?_
        refine v_iconst (v := nI 2) h 693 694 dL_acts_693 rfl (by decide) ?_
        refine v_iremN h 694 695 dL_acts_694 rfl (by omega) (by omega) (by omega) ?_
        refine v_if_ne h 695 698 703 dL_acts_695 rfl (by decide) (fun h695 => absurd (congrArg nI q2) h695) (fun h695 => ?_)
        refine v_bipush (v := nI 21) h 698 700 dL_acts_698 rfl (by decide) ?_
        refine v_goto h 700 705 dL_acts_700 (by decide) ?_
        refine v_iremN h 705 706 dL_acts_705 rfl (by omega) (by omega) (by omega) ?_
        refine v_stE h 706 707 nc 2 dL_acts_706 rfl (by omega) (by omega) ?_
        refine v_aload_n (i := 2) h 707 708 dL_acts_707 rfl rfl ld2 ?_
        refine v_iload (i := 17) h 708 710 dL_acts_708 rfl ld17 ?_
        refine v_iconst (v := nI 3) h 710 711 dL_acts_710 rfl (by decide) ?_
        refine v_iaddN h 711 712 dL_acts_711 rfl ?_
        refine v_iload (i := 6) h 712 714 dL_acts_712 rfl ld6 ?_
        refine v_iconst (v := nI 3) h 714 715 dL_acts_714 rfl (by decide) ?_
        refine v_idivN h 715 716 dL_acts_715 rfl (by omega) (by omega) (by omega) ?_
        refine v_iconst (v := nI 3) h 716 717 dL_acts_716 rfl (by decide) ?_
        refine v_iremN h 717 718 dL_acts_717 rfl (by omega) (by omega) (by omega) ?_
        refine v_if_ne h 718 721 725 dL_acts_718 rfl (by decide) (fun h718 => ?_) (fun h718 => absurd (nI_inj (b := 0) (by omega) (by omega) h718) q3)
        refine v_iconst (v := 0) h 725 726 dL_acts_725 rfl (by decide) ?_
        refine v_stE h 726 727 nc 3 dL_acts_726 rfl (by omega) (by omega) ?_
        refine v_aload_n (i := 2) h 727 728 dL_acts_727 rfl rfl ld2 ?_
        refine v_iload (i := 17) h 728 730 dL_acts_728 rfl ld17 ?_
        refine v_iconst (v := nI 4) h 730 731 dL_acts_730 rfl (by decide) ?_
        refine v_iaddN h 731 732 dL_acts_731 rfl ?_
        refine v_iconst (v := 0) h 732 733 dL_acts_732 rfl (by decide) ?_
        refine v_stE h 733 734 nc 4 dL_acts_733 rfl (by omega) (by omega) ?_
        refine v_aload_n (i := 2) h 734 735 dL_acts_734 rfl rfl ld2 ?_
        refine v_iload (i := 17) h 735 737 dL_acts_735 rfl ld17 ?_
        refine v_iconst (v := nI 5) h 737 738 dL_acts_737 rfl (by decide) ?_
        refine v_iaddN h 738 739 dL_acts_738 rfl ?_
        refine v_iconst (v := (-1)) h 739 740 dL_acts_739 rfl (by decide) ?_
        refine v_stE h 740 741 nc 5 dL_acts_740 rfl (by omega) (by omega) ?_
        refine v_aload_n (i := 2) h 741 742 dL_acts_741 rfl rfl ld2 ?_
        refine v_iload (i := 17) h 742 744 dL_acts_742 rfl ld17 ?_
        refine v_bipush (v := nI 6) h 744 746 dL_acts_744 rfl (by decide) ?_
        refine v_iaddN h 746 747 dL_acts_746 rfl ?_
        refine v_iconst (v := (-1)) h 747 748 dL_acts_747 rfl (by decide) ?_
        refine v_stE h 748 749 nc 6 dL_acts_748 rfl (by omega) (by omega) ?_
        refine v_aload_n (i := 2) h 749 750 dL_acts_749 rfl rfl ld2 ?_
        refine v_iload (i := 17) h 750 752 dL_acts_750 rfl ld17 ?_
        refine v_bipush (v := nI 7) h 752 754 dL_acts_752 rfl (by decide) ?_
        refine v_iaddN h 754 755 dL_acts_754 rfl ?_
        refine v_iconst (v := (-1)) h 755 756 dL_acts_755 rfl (by decide) ?_
        refine v_stE h 756 757 nc 7 dL_acts_756 rfl (by omega) (by omega) ?_
        refine v_aload_n (i := 1) h 757 758 dL_acts_757 rfl rfl ld1 ?_
        refine v_bipush (v := nI 7) h 758 760 dL_acts_758 rfl (by decide) ?_
        refine v_dup2 h 760 761 dL_acts_760 rfl rfl rfl ?_
        refine v_ldG h 761 762 7 dL_acts_761 rfl (by omega) ?_
        try simp (disch := omega) only [upd_ne, upd_self]
        rw [hI.c7]
        refine v_iconst (v := nI 1) h 762 763 dL_acts_762 rfl (by decide) ?_
        refine v_iaddN h 763 764 dL_acts_763 rfl ?_
        refine v_stG h 764 765 7 dL_acts_764 rfl (by omega) ?_
        rw [eR]
        refine v_aload_n (i := 0) h 765 766 dL_acts_765 rfl rfl ld0 ?_
        refine v_aload_n (i := 2) h 766 767 dL_acts_766 rfl rfl ld2 ?_
        refine v_iload (i := 17) h 767 769 dL_acts_767 rfl ld17 ?_
        refine v_ldE0 h 769 770 nc dL_acts_769 rfl (by omega) ?_
        try simp (disch := omega) only [upd_ne, upd_self]
        rw [q0]
        refine v_aload_n (i := 2) h 770 771 dL_acts_770 rfl rfl ld2 ?_
        refine v_iload (i := 17) h 771 773 dL_acts_771 rfl ld17 ?_
        refine v_iconst (v := nI 1) h 773 774 dL_acts_773 rfl (by decide) ?_
        refine v_iaddN h 774 775 dL_acts_774 rfl ?_
        refine v_ldE h 775 776 nc 1 dL_acts_775 rfl (by omega) (by omega) ?_
        try simp (disch := omega) only [upd_ne, upd_self]
        rw [q1]
        refine v_aload_n (i := 2) h 776 777 dL_acts_776 rfl rfl ld2 ?_
        refine v_iload (i := 17) h 777 779 dL_acts_777 rfl ld17 ?_
        refine v_iconst (v := nI 2) h 779 780 dL_acts_779 rfl (by decide) ?_
        refine v_iaddN h 780 781 dL_acts_780 rfl ?_
        refine v_ldE h 781 782 nc 2 dL_acts_781 rfl (by omega) (by omega) ?_
        try simp (disch := omega) only [upd_ne, upd_self]
        rw [q2v]
        refine v_iload (i := 6) h 782 784 dL_acts_782 rfl ld6 ?_
        refine v_iconst (v := nI 3) h 784 785 dL_acts_784 rfl (by decide) ?_
        refine v_idivN h 785 786 dL_acts_785 rfl (by omega) (by omega) (by omega) ?_
        refine v_iconst (v := nI 3) h 786 787 dL_acts_786 rfl (by decide) ?_
        refine v_iremN h 787 788 dL_acts_787 rfl (by omega) (by omega) (by omega) ?_
        refine v_if_ne h 788 791 795 dL_acts_788 rfl (by decide) (fun h788 => ?_) (fun h788 => absurd (nI_inj (b := 0) (by omega) (by omega) h788) q3)
        refine v_iconst (v := 0) h 795 796 dL_acts_795 rfl (by decide) ?_
        refine v_callS1h h hZ 796 799 dL_acts_796 rfl cb_Lz_addsChair cs_Lz_addsChair lk_L_52 (rok (by decide) (by decide)) ⟨by decide, by decide⟩ (g_addsChair hD_lw (Cd.lw (fun w => c_addChair he hks hI0 (nI_pos (by omega)) (by rw [z0]; exact nI_ge (by omega) (by omega)) (nI_nlt (b := 1) (by omega) (by omega)) (nI_nlt (a := 4) (by omega) (by omega)) (nI_pos (by omega)) (nI_nlt (a := 20) (by omega) (by omega)) (by omega) (by decide)))) rfl rfl (Nat.le_of_ble_eq_true rfl) (fun n796 hn796 => ?_)
        refine V.nx (k' := 0) (n' := 0) (w' := lw E (D + 141) (hangS (upd R 7 (nI (nc + 1))) nc (nI (v % 3)) (nI (1 + v / 7 % 4)) (nI (v / 28 % 21)) 0) (dl E D (hangS (upd S0 7 (nI (nc + 1))) nc (nI (v % 3)) (nI (1 + v / 7 % 4)) (nI (v / 28 % 21)) 0) S1 (va_up Sv e (cpS (Sv e) S0 nc nt)) (nI (min 4 (ks + 1))) (nI ((e + 1) % 4)) 0 (fun _ => 0) (n796, F))) (by decide) (by decide) rfl ?_
        refine v_iload (i := 7) h 799 801 dL_acts_799 rfl ld7 ?_
        refine v_icmp_ne h 801 804 808 dL_acts_801 rfl (by decide) (fun h801 => absurd (congrArg nI (show nc = nc by omega)) h801) (fun h801 => ?_)
        refine v_iconst (v := 1) h 804 805 dL_acts_804 rfl (by decide) ?_
        refine v_goto h 805 809 dL_acts_805 (by decide) ?_
        exact v_zretz h 809 f dL_acts_809 rfl rfl (by decide) (by decide) rfl hn796 rfl
    · by_cases q3 : v / 3 % 3 = 0
      · have eR : upd (upd (upd (upd (upd (upd (upd (upd (upd R (13 + 8 * nc + 0) (nI (v % 3))) (13 + 8 * nc + 1) (nI (1 + v / 7 % 4))) (13 + 8 * nc + 2) (nI (v / 28 % 6))) (13 + 8 * nc + 3) 1) (13 + 8 * nc + 4) 0) (13 + 8 * nc + 5) (-1)) (13 + 8 * nc + 6) (-1)) (13 + 8 * nc + 7) (-1)) 7 (nI (nc + 1)) = hangS (upd R 7 (nI (nc + 1))) nc (nI (v % 3)) (nI (1 + v / 7 % 4)) (nI (v / 28 % 6)) 1 := by
          unfold hangS waitS
          funext i
          by_cases q0 : i = 7
          · subst q0
            simp (disch := omega) only [upd_self, upd_ne]
          by_cases q1 : i = 13 + 8 * nc + 0
          · subst q1
            simp (disch := omega) only [upd_self, upd_ne]
          by_cases q2 : i = 13 + 8 * nc + 1
          · subst q2
            simp (disch := omega) only [upd_self, upd_ne]
          by_cases q3 : i = 13 + 8 * nc + 2
          · subst q3
            simp (disch := omega) only [upd_self, upd_ne]
          by_cases q4 : i = 13 + 8 * nc + 3
          · subst q4
            simp (disch := omega) only [upd_self, upd_ne]
          by_cases q5 : i = 13 + 8 * nc + 4
          · subst q5
            simp (disch := omega) only [upd_self, upd_ne]
          by_cases q6 : i = 13 + 8 * nc + 5
          · subst q6
            simp (disch := omega) only [upd_self, upd_ne]
          by_cases q7 : i = 13 + 8 * nc + 6
          · subst q7
            simp (disch := omega) only [upd_self, upd_ne]
          by_cases q8 : i = 13 + 8 * nc + 7
          · subst q8
            simp (disch := omega) only [upd_self, upd_ne]
          simp (disch := omega) only [upd_ne]
        have q0 : (hangS (upd R 7 (nI (nc + 1))) nc (nI (v % 3)) (nI (1 + v / 7 % 4)) (nI (v / 28 % 6)) 1) (13 + 8 * nc + 0) = nI (v % 3) := by unfold hangS waitS; simp (disch := omega) only [upd_ne, upd_self]
        have q1 : (hangS (upd R 7 (nI (nc + 1))) nc (nI (v % 3)) (nI (1 + v / 7 % 4)) (nI (v / 28 % 6)) 1) (13 + 8 * nc + 1) = nI (1 + v / 7 % 4) := by unfold hangS waitS; simp (disch := omega) only [upd_ne, upd_self]
        have q2v : (hangS (upd R 7 (nI (nc + 1))) nc (nI (v % 3)) (nI (1 + v / 7 % 4)) (nI (v / 28 % 6)) 1) (13 + 8 * nc + 2) = nI (v / 28 % 6) := by unfold hangS waitS; simp (disch := omega) only [upd_ne, upd_self]
        refine ⟨hangS (upd S0 7 (nI (nc + 1))) nc (nI (v % 3)) (nI (1 + v / 7 % 4)) (nI (v / 28 % 6)) 1, S1, va_up Sv e (cpS (Sv e) S0 nc nt), min 4 (ks + 1), (e + 1) % 4, hangS (upd R 7 (nI (nc + 1))) nc (nI (v % 3)) (nI (1 + v / 7 % 4)) (nI (v / 28 % 6)) 1, nc + 1, nt, ne, m, ⟨inv_addC hI (by omega) (by omega) (by omega) (by omega) (by omega) (by decide), ⟨fun c hc => by
            by_cases q : c = nc
            · subst q
              unfold hangS waitS
              simp (disch := omega) only [upd_ne, upd_self]
              exact ⟨Or.inl rfl, Or.inl rfl⟩
            · rw [hangS_ne (by omega), hangS_ne (by omega), upd_ne _ _ (by omega), upd_ne _ _ (by omega)]; exact hJ.1 c (by omega), fun t ht => by rw [hangS_ne (by omega), hangS_ne (by omega), upd_ne _ _ (by omega), upd_ne _ _ (by omega)]; exact hJ.2 t ht⟩, by omega, hm, hA.hang _ _ _ _ _, e4', ks4⟩, fun Γ z h hZ f => ?_⟩
        refine v_iload (i := 7) h 623 625 dL_acts_623 rfl ld7 ?_
        refine v_bipush (v := 8) h 625 627 dL_acts_625 rfl (by decide) ?_
        refine v_icmp_ne h 627 630 649 dL_acts_627 rfl (by decide) (fun h627 => ?_) (fun h627 => absurd (nI_inj (b := 8) (by omega) (by omega) h627) h88)
        refine v_bipush (v := nI 8) h 649 651 dL_acts_649 rfl (by decide) ?_
        refine v_iload (i := 7) h 651 653 dL_acts_651 rfl ld7 ?_
        refine v_imulN h 653 654 dL_acts_653 rfl ?_
        refine v_istore (i := 17) h 654 656 dL_acts_654 rfl (by decide) (so17 rfl) ?_
        refine v_aload_n (i := 2) h 656 657 dL_acts_656 rfl rfl ld2 ?_
        refine v_iload (i := 17) h 657 659 dL_acts_657 rfl ld17 ?_
        refine v_iload (i := 6) h 659 661 dL_acts_659 rfl ld6 ?_
        refine v_aload_n (i := 1) h 661 662 dL_acts_661 rfl rfl ld1 ?_
        refine v_iconst (v := nI 0) h 662 663 dL_acts_662 rfl (by decide) ?_
        refine v_ldG h 663 664 0 dL_acts_663 rfl (by omega) ?_
        try simp (disch := omega) only [upd_ne, upd_self]
        rw [h0]
        refine v_iremN h 664 665 dL_acts_664 rfl (by omega) (by omega) (by omega) ?_
        refine v_stE0 h 665 666 nc dL_acts_665 rfl (by omega) ?_
        refine v_aload_n (i := 2) h 666 667 dL_acts_666 rfl rfl ld2 ?_
        refine v_iload (i := 17) h 667 669 dL_acts_667 rfl ld17 ?_
        refine v_iconst (v := nI 1) h 669 670 dL_acts_669 rfl (by decide) ?_
        refine v_iaddN h 670 671 dL_acts_670 rfl ?_
        refine v_iconst (v := nI 1) h 671 672 dL_acts_671 rfl (by decide) ?_
        refine v_iload (i := 6) h 672 674 dL_acts_672 rfl ld6 ?_
        refine v_bipush (v := nI 7) h 674 676 dL_acts_674 rfl (by decide) ?_
        refine v_idivN h 676 677 dL_acts_676 rfl (by omega) (by omega) (by omega) ?_
        refine v_iconst (v := nI 4) h 677 678 dL_acts_677 rfl (by decide) ?_
        refine v_iremN h 678 679 dL_acts_678 rfl (by omega) (by omega) (by omega) ?_
        refine v_iaddN h 679 680 dL_acts_679 rfl ?_
        refine v_stE h 680 681 nc 1 dL_acts_680 rfl (by omega) (by omega) ?_
        refine v_aload_n (i := 2) h 681 682 dL_acts_681 rfl rfl ld2 ?_
        refine v_iload (i := 17) h 682 684 dL_acts_682 rfl ld17 ?_
        refine v_iconst (v := nI 2) h 684 685 dL_acts_684 rfl (by decide) ?_
        refine v_iaddN h 685 686 dL_acts_685 rfl ?_
        refine v_iload (i := 6) h 686 688 dL_acts_686 rfl ld6 ?_
        refine v_bipush (v := nI 28) h 688 690 dL_acts_688 rfl (by decide) ?_
        refine v_idivN h 690 691 dL_acts_690 rfl (by omega) (by omega) (by omega) ?_
        refine v_iload (i := 6) h 691 693 dL_acts_691 rfl ld6 ?_
        refine v_iconst (v := nI 2) h 693 694 dL_acts_693 rfl (by decide) ?_
        refine v_iremN h 694 695 dL_acts_694 rfl (by omega) (by omega) (by omega) ?_
        refine v_if_ne h 695 698 703 dL_acts_695 rfl (by decide) (fun h695 => ?_) (fun h695 => absurd (nI_inj (b := 0) (by omega) (by omega) h695) q2)
        refine v_bipush (v := nI 6) h 703 705 dL_acts_703 rfl (by decide) ?_
        refine v_iremN h 705 706 dL_acts_705 rfl (by omega) (by omega) (by omega) ?_
        refine v_stE h 706 707 nc 2 dL_acts_706 rfl (by omega) (by omega) ?_
        refine v_aload_n (i := 2) h 707 708 dL_acts_707 rfl rfl ld2 ?_
        refine v_iload (i := 17) h 708 710 dL_acts_708 rfl ld17 ?_
        refine v_iconst (v := nI 3) h 710 711 dL_acts_710 rfl (by decide) ?_
        refine v_iaddN h 711 712 dL_acts_711 rfl ?_
        refine v_iload (i := 6) h 712 714 dL_acts_712 rfl ld6 ?_
        refine v_iconst (v := nI 3) h 714 715 dL_acts_714 rfl (by decide) ?_
        refine v_idivN h 715 716 dL_acts_715 rfl (by omega) (by omega) (by omega) ?_
        refine v_iconst (v := nI 3) h 716 717 dL_acts_716 rfl (by decide) ?_
        refine v_iremN h 717 718 dL_acts_717 rfl (by omega) (by omega) (by omega) ?_
        refine v_if_ne h 718 721 725 dL_acts_718 rfl (by decide) (fun h718 => absurd (congrArg nI q3) h718) (fun h718 => ?_)
        refine v_iconst (v := 1) h 721 722 dL_acts_721 rfl (by decide) ?_
        refine v_goto h 722 726 dL_acts_722 (by decide) ?_
        refine v_stE h 726 727 nc 3 dL_acts_726 rfl (by omega) (by omega) ?_
        refine v_aload_n (i := 2) h 727 728 dL_acts_727 rfl rfl ld2 ?_
        refine v_iload (i := 17) h 728 730 dL_acts_728 rfl ld17 ?_
        refine v_iconst (v := nI 4) h 730 731 dL_acts_730 rfl (by decide) ?_
        refine v_iaddN h 731 732 dL_acts_731 rfl ?_
        refine v_iconst (v := 0) h 732 733 dL_acts_732 rfl (by decide) ?_
        refine v_stE h 733 734 nc 4 dL_acts_733 rfl (by omega) (by omega) ?_
        refine v_aload_n (i := 2) h 734 735 dL_acts_734 rfl rfl ld2 ?_
        refine v_iload (i := 17) h 735 737 dL_acts_735 rfl ld17 ?_
        refine v_iconst (v := nI 5) h 737 738 dL_acts_737 rfl (by decide) ?_
        refine v_iaddN h 738 739 dL_acts_738 rfl ?_
        refine v_iconst (v := (-1)) h 739 740 dL_acts_739 rfl (by decide) ?_
        refine v_stE h 740 741 nc 5 dL_acts_740 rfl (by omega) (by omega) ?_
        refine v_aload_n (i := 2) h 741 742 dL_acts_741 rfl rfl ld2 ?_
        refine v_iload (i := 17) h 742 744 dL_acts_742 rfl ld17 ?_
        refine v_bipush (v := nI 6) h 744 746 dL_acts_744 rfl (by decide) ?_
        refine v_iaddN h 746 747 dL_acts_746 rfl ?_
        refine v_iconst (v := (-1)) h 747 748 dL_acts_747 rfl (by decide) ?_
        refine v_stE h 748 749 nc 6 dL_acts_748 rfl (by omega) (by omega) ?_
        refine v_aload_n (i := 2) h 749 750 dL_acts_749 rfl rfl ld2 ?_
        refine v_iload (i := 17) h 750 752 dL_acts_750 rfl ld17 ?_
        refine v_bipush (v := nI 7) h 752 754 dL_acts_752 rfl (by decide) ?_
        refine v_iaddN h 754 755 dL_acts_754 rfl ?_
        refine v_iconst (v := (-1)) h 755 756 dL_acts_755 rfl (by decide) ?_
        refine v_stE h 756 757 nc 7 dL_acts_756 rfl (by omega) (by omega) ?_
        refine v_aload_n (i := 1) h 757 758 dL_acts_757 rfl rfl ld1 ?_
        refine v_bipush (v := nI 7) h 758 760 dL_acts_758 rfl (by decide) ?_
        refine v_dup2 h 760 761 dL_acts_760 rfl rfl rfl ?_
        refine v_ldG h 761 762 7 dL_acts_761 rfl (by omega) ?_
        try simp (disch := omega) only [upd_ne, upd_self]
        rw [hI.c7]
        refine v_iconst (v := nI 1) h 762 763 dL_acts_762 rfl (by decide) ?_
        refine v_iaddN h 763 764 dL_acts_763 rfl ?_
        refine v_stG h 764 765 7 dL_acts_764 rfl (by omega) ?_
        rw [eR]
        refine v_aload_n (i := 0) h 765 766 dL_acts_765 rfl rfl ld0 ?_
        refine v_aload_n (i := 2) h 766 767 dL_acts_766 rfl rfl ld2 ?_
        refine v_iload (i := 17) h 767 769 dL_acts_767 rfl ld17 ?_
        refine v_ldE0 h 769 770 nc dL_acts_769 rfl (by omega) ?_
        try simp (disch := omega) only [upd_ne, upd_self]
        rw [q0]
        refine v_aload_n (i := 2) h 770 771 dL_acts_770 rfl rfl ld2 ?_
        refine v_iload (i := 17) h 771 773 dL_acts_771 rfl ld17 ?_
        refine v_iconst (v := nI 1) h 773 774 dL_acts_773 rfl (by decide) ?_
        refine v_iaddN h 774 775 dL_acts_774 rfl ?_
        refine v_ldE h 775 776 nc 1 dL_acts_775 rfl (by omega) (by omega) ?_
        try simp (disch := omega) only [upd_ne, upd_self]
        rw [q1]
        refine v_aload_n (i := 2) h 776 777 dL_acts_776 rfl rfl ld2 ?_
        refine v_iload (i := 17) h 777 779 dL_acts_777 rfl ld17 ?_
        refine v_iconst (v := nI 2) h 779 780 dL_acts_779 rfl (by decide) ?_
        refine v_iaddN h 780 781 dL_acts_780 rfl ?_
        refine v_ldE h 781 782 nc 2 dL_acts_781 rfl (by omega) (by omega) ?_
        try simp (disch := omega) only [upd_ne, upd_self]
        rw [q2v]
        refine v_iload (i := 6) h 782 784 dL_acts_782 rfl ld6 ?_
        refine v_iconst (v := nI 3) h 784 785 dL_acts_784 rfl (by decide) ?_
        refine v_idivN h 785 786 dL_acts_785 rfl (by omega) (by omega) (by omega) ?_
        refine v_iconst (v := nI 3) h 786 787 dL_acts_786 rfl (by decide) ?_
        refine v_iremN h 787 788 dL_acts_787 rfl (by omega) (by omega) (by omega) ?_
        refine v_if_ne h 788 791 795 dL_acts_788 rfl (by decide) (fun h788 => absurd (congrArg nI q3) h788) (fun h788 => ?_)
        refine v_iconst (v := 1) h 791 792 dL_acts_791 rfl (by decide) ?_
        refine v_goto h 792 796 dL_acts_792 (by decide) ?_
        refine v_callS1h h hZ 796 799 dL_acts_796 rfl cb_Lz_addsChair cs_Lz_addsChair lk_L_52 (rok (by decide) (by decide)) ⟨by decide, by decide⟩ (g_addsChair hD_lw (Cd.lw (fun w => c_addChair he hks hI0 (nI_pos (by omega)) (by rw [z0]; exact nI_ge (by omega) (by omega)) (nI_nlt (b := 1) (by omega) (by omega)) (nI_nlt (a := 4) (by omega) (by omega)) (nI_pos (by omega)) (nI_nlt (a := 20) (by omega) (by omega)) (by omega) (by decide)))) rfl rfl (Nat.le_of_ble_eq_true rfl) (fun n796 hn796 => ?_)
        refine V.nx (k' := 0) (n' := 0) (w' := lw E (D + 141) (hangS (upd R 7 (nI (nc + 1))) nc (nI (v % 3)) (nI (1 + v / 7 % 4)) (nI (v / 28 % 6)) 1) (dl E D (hangS (upd S0 7 (nI (nc + 1))) nc (nI (v % 3)) (nI (1 + v / 7 % 4)) (nI (v / 28 % 6)) 1) S1 (va_up Sv e (cpS (Sv e) S0 nc nt)) (nI (min 4 (ks + 1))) (nI ((e + 1) % 4)) 0 (fun _ => 0) (n796, F))) (by decide) (by decide) rfl ?_
        refine v_iload (i := 7) h 799 801 dL_acts_799 rfl ld7 ?_
        refine v_icmp_ne h 801 804 808 dL_acts_801 rfl (by decide) (fun h801 => absurd (congrArg nI (show nc = nc by omega)) h801) (fun h801 => ?_)
        refine v_iconst (v := 1) h 804 805 dL_acts_804 rfl (by decide) ?_
        refine v_goto h 805 809 dL_acts_805 (by decide) ?_
        exact v_zretz h 809 f dL_acts_809 rfl rfl (by decide) (by decide) rfl hn796 rfl
      · have eR : upd (upd (upd (upd (upd (upd (upd (upd (upd R (13 + 8 * nc + 0) (nI (v % 3))) (13 + 8 * nc + 1) (nI (1 + v / 7 % 4))) (13 + 8 * nc + 2) (nI (v / 28 % 6))) (13 + 8 * nc + 3) 0) (13 + 8 * nc + 4) 0) (13 + 8 * nc + 5) (-1)) (13 + 8 * nc + 6) (-1)) (13 + 8 * nc + 7) (-1)) 7 (nI (nc + 1)) = hangS (upd R 7 (nI (nc + 1))) nc (nI (v % 3)) (nI (1 + v / 7 % 4)) (nI (v / 28 % 6)) 0 := by
          unfold hangS waitS
          funext i
          by_cases q0 : i = 7
          · subst q0
            simp (disch := omega) only [upd_self, upd_ne]
          by_cases q1 : i = 13 + 8 * nc + 0
          · subst q1
            simp (disch := omega) only [upd_self, upd_ne]
          by_cases q2 : i = 13 + 8 * nc + 1
          · subst q2
            simp (disch := omega) only [upd_self, upd_ne]
          by_cases q3 : i = 13 + 8 * nc + 2
          · subst q3
            simp (disch := omega) only [upd_self, upd_ne]
          by_cases q4 : i = 13 + 8 * nc + 3
          · subst q4
            simp (disch := omega) only [upd_self, upd_ne]
          by_cases q5 : i = 13 + 8 * nc + 4
          · subst q5
            simp (disch := omega) only [upd_self, upd_ne]
          by_cases q6 : i = 13 + 8 * nc + 5
          · subst q6
            simp (disch := omega) only [upd_self, upd_ne]
          by_cases q7 : i = 13 + 8 * nc + 6
          · subst q7
            simp (disch := omega) only [upd_self, upd_ne]
          by_cases q8 : i = 13 + 8 * nc + 7
          · subst q8
            simp (disch := omega) only [upd_self, upd_ne]
          simp (disch := omega) only [upd_ne]
        have q0 : (hangS (upd R 7 (nI (nc + 1))) nc (nI (v % 3)) (nI (1 + v / 7 % 4)) (nI (v / 28 % 6)) 0) (13 + 8 * nc + 0) = nI (v % 3) := by unfold hangS waitS; simp (disch := omega) only [upd_ne, upd_self]
        have q1 : (hangS (upd R 7 (nI (nc + 1))) nc (nI (v % 3)) (nI (1 + v / 7 % 4)) (nI (v / 28 % 6)) 0) (13 + 8 * nc + 1) = nI (1 + v / 7 % 4) := by unfold hangS waitS; simp (disch := omega) only [upd_ne, upd_self]
        have q2v : (hangS (upd R 7 (nI (nc + 1))) nc (nI (v % 3)) (nI (1 + v / 7 % 4)) (nI (v / 28 % 6)) 0) (13 + 8 * nc + 2) = nI (v / 28 % 6) := by unfold hangS waitS; simp (disch := omega) only [upd_ne, upd_self]
        refine ⟨hangS (upd S0 7 (nI (nc + 1))) nc (nI (v % 3)) (nI (1 + v / 7 % 4)) (nI (v / 28 % 6)) 0, S1, va_up Sv e (cpS (Sv e) S0 nc nt), min 4 (ks + 1), (e + 1) % 4, hangS (upd R 7 (nI (nc + 1))) nc (nI (v % 3)) (nI (1 + v / 7 % 4)) (nI (v / 28 % 6)) 0, nc + 1, nt, ne, m, ⟨inv_addC hI (by omega) (by omega) (by omega) (by omega) (by omega) (by decide), ⟨fun c hc => by
            by_cases q : c = nc
            · subst q
              unfold hangS waitS
              simp (disch := omega) only [upd_ne, upd_self]
              exact ⟨Or.inl rfl, Or.inl rfl⟩
            · rw [hangS_ne (by omega), hangS_ne (by omega), upd_ne _ _ (by omega), upd_ne _ _ (by omega)]; exact hJ.1 c (by omega), fun t ht => by rw [hangS_ne (by omega), hangS_ne (by omega), upd_ne _ _ (by omega), upd_ne _ _ (by omega)]; exact hJ.2 t ht⟩, by omega, hm, hA.hang _ _ _ _ _, e4', ks4⟩, fun Γ z h hZ f => ?_⟩
        refine v_iload (i := 7) h 623 625 dL_acts_623 rfl ld7 ?_
        refine v_bipush (v := 8) h 625 627 dL_acts_625 rfl (by decide) ?_
        refine v_icmp_ne h 627 630 649 dL_acts_627 rfl (by decide) (fun h627 => ?_) (fun h627 => absurd (nI_inj (b := 8) (by omega) (by omega) h627) h88)
        refine v_bipush (v := nI 8) h 649 651 dL_acts_649 rfl (by decide) ?_
        refine v_iload (i := 7) h 651 653 dL_acts_651 rfl ld7 ?_
        refine v_imulN h 653 654 dL_acts_653 rfl ?_
        refine v_istore (i := 17) h 654 656 dL_acts_654 rfl (by decide) (so17 rfl) ?_
        refine v_aload_n (i := 2) h 656 657 dL_acts_656 rfl rfl ld2 ?_
        refine v_iload (i := 17) h 657 659 dL_acts_657 rfl ld17 ?_
        refine v_iload (i := 6) h 659 661 dL_acts_659 rfl ld6 ?_
        refine v_aload_n (i := 1) h 661 662 dL_acts_661 rfl rfl ld1 ?_
        refine v_iconst (v := nI 0) h 662 663 dL_acts_662 rfl (by decide) ?_
        refine v_ldG h 663 664 0 dL_acts_663 rfl (by omega) ?_
        try simp (disch := omega) only [upd_ne, upd_self]
        rw [h0]
        refine v_iremN h 664 665 dL_acts_664 rfl (by omega) (by omega) (by omega) ?_
        refine v_stE0 h 665 666 nc dL_acts_665 rfl (by omega) ?_
        refine v_aload_n (i := 2) h 666 667 dL_acts_666 rfl rfl ld2 ?_
        refine v_iload (i := 17) h 667 669 dL_acts_667 rfl ld17 ?_
        refine v_iconst (v := nI 1) h 669 670 dL_acts_669 rfl (by decide) ?_
        refine v_iaddN h 670 671 dL_acts_670 rfl ?_
        refine v_iconst (v := nI 1) h 671 672 dL_acts_671 rfl (by decide) ?_
        refine v_iload (i := 6) h 672 674 dL_acts_672 rfl ld6 ?_
        refine v_bipush (v := nI 7) h 674 676 dL_acts_674 rfl (by decide) ?_
        refine v_idivN h 676 677 dL_acts_676 rfl (by omega) (by omega) (by omega) ?_
        refine v_iconst (v := nI 4) h 677 678 dL_acts_677 rfl (by decide) ?_
        refine v_iremN h 678 679 dL_acts_678 rfl (by omega) (by omega) (by omega) ?_
        refine v_iaddN h 679 680 dL_acts_679 rfl ?_
        refine v_stE h 680 681 nc 1 dL_acts_680 rfl (by omega) (by omega) ?_
        refine v_aload_n (i := 2) h 681 682 dL_acts_681 rfl rfl ld2 ?_
        refine v_iload (i := 17) h 682 684 dL_acts_682 rfl ld17 ?_
        refine v_iconst (v := nI 2) h 684 685 dL_acts_684 rfl (by decide) ?_
        refine v_iaddN h 685 686 dL_acts_685 rfl ?_
        refine v_iload (i := 6) h 686 688 dL_acts_686 rfl ld6 ?_
        refine v_bipush (v := nI 28) h 688 690 dL_acts_688 rfl (by decide) ?_
        refine v_idivN h 690 691 dL_acts_690 rfl (by omega) (by omega) (by omega) ?_
        refine v_iload (i := 6) h 691 693 dL_acts_691 rfl ld6 ?_
        refine v_iconst (v := nI 2) h 693 694 dL_acts_693 rfl (by decide) ?_
        refine v_iremN h 694 695 dL_acts_694 rfl (by omega) (by omega) (by omega) ?_
        refine v_if_ne h 695 698 703 dL_acts_695 rfl (by decide) (fun h695 => ?_) (fun h695 => absurd (nI_inj (b := 0) (by omega) (by omega) h695) q2)
        refine v_bipush (v := nI 6) h 703 705 dL_acts_703 rfl (by decide) ?_
        refine v_iremN h 705 706 dL_acts_705 rfl (by omega) (by omega) (by omega) ?_
        refine v_stE h 706 707 nc 2 dL_acts_706 rfl (by omega) (by omega) ?_
        refine v_aload_n (i := 2) h 707 708 dL_acts_707 rfl rfl ld2 ?_
        refine v_iload (i := 17) h 708 710 dL_acts_708 rfl ld17 ?_
        refine v_iconst (v := nI 3) h 710 711 dL_acts_710 rfl (by decide) ?_
        refine v_iaddN h 711 712 dL_acts_711 rfl ?_
        refine v_iload (i := 6) h 712 714 dL_acts_712 rfl ld6 ?_
        refine v_iconst (v := nI 3) h 714 715 dL_acts_714 rfl (by decide) ?_
        refine v_idivN h 715 716 dL_acts_715 rfl (by omega) (by omega) (by omega) ?_
        refine v_iconst (v := nI 3) h 716 717 dL_acts_716 rfl (by decide) ?_
        refine v_iremN h 717 718 dL_acts_717 rfl (by omega) (by omega) (by omega) ?_
        refine v_if_ne h 718 721 725 dL_acts_718 rfl (by decide) (fun h718 => ?_) (fun h718 => absurd (nI_inj (b := 0) (by omega) (by omega) h718) q3)
        refine v_iconst (v := 0) h 725 726 dL_acts_725 rfl (by decide) ?_
        refine v_stE h 726 727 nc 3 dL_acts_726 rfl (by omega) (by omega) ?_
        refine v_aload_n (i := 2) h 727 728 dL_acts_727 rfl rfl ld2 ?_
        refine v_iload (i := 17) h 728 730 dL_acts_728 rfl ld17 ?_
        refine v_iconst (v := nI 4) h 730 731 dL_acts_730 rfl (by decide) ?_
        refine v_iaddN h 731 732 dL_acts_731 rfl ?_
        refine v_iconst (v := 0) h 732 733 dL_acts_732 rfl (by decide) ?_
        refine v_stE h 733 734 nc 4 dL_acts_733 rfl (by omega) (by omega) ?_
        refine v_aload_n (i := 2) h 734 735 dL_acts_734 rfl rfl ld2 ?_
        refine v_iload (i := 17) h 735 737 dL_acts_735 rfl ld17 ?_
        refine v_iconst (v := nI 5) h 737 738 dL_acts_737 rfl (by decide) ?_
        refine v_iaddN h 738 739 dL_acts_738 rfl ?_
        refine v_iconst (v := (-1)) h 739 740 dL_acts_739 rfl (by decide) ?_
        refine v_stE h 740 741 nc 5 dL_acts_740 rfl (by omega) (by omega) ?_
        refine v_aload_n (i := 2) h 741 742 dL_acts_741 rfl rfl ld2 ?_
        refine v_iload (i := 17) h 742 744 dL_acts_742 rfl ld17 ?_
        refine v_bipush (v := nI 6) h 744 746 dL_acts_744 rfl (by decide) ?_
        refine v_iaddN h 746 747 dL_acts_746 rfl ?_
        refine v_iconst (v := (-1)) h 747 748 dL_acts_747 rfl (by decide) ?_
        refine v_stE h 748 749 nc 6 dL_acts_748 rfl (by omega) (by omega) ?_
        refine v_aload_n (i := 2) h 749 750 dL_acts_749 rfl rfl ld2 ?_
        refine v_iload (i := 17) h 750 752 dL_acts_750 rfl ld17 ?_
        refine v_bipush (v := nI 7) h 752 754 dL_acts_752 rfl (by decide) ?_
        refine v_iaddN h 754 755 dL_acts_754 rfl ?_
        refine v_iconst (v := (-1)) h 755 756 dL_acts_755 rfl (by decide) ?_
        refine v_stE h 756 757 nc 7 dL_acts_756 rfl (by omega) (by omega) ?_
        refine v_aload_n (i := 1) h 757 758 dL_acts_757 rfl rfl ld1 ?_
        refine v_bipush (v := nI 7) h 758 760 dL_acts_758 rfl (by decide) ?_
        refine v_dup2 h 760 761 dL_acts_760 rfl rfl rfl ?_
        refine v_ldG h 761 762 7 dL_acts_761 rfl (by omega) ?_
        try simp (disch := omega) only [upd_ne, upd_self]
        rw [hI.c7]
        refine v_iconst (v := nI 1) h 762 763 dL_acts_762 rfl (by decide) ?_
        refine v_iaddN h 763 764 dL_acts_763 rfl ?_
        refine v_stG h 764 765 7 dL_acts_764 rfl (by omega) ?_
        rw [eR]
        refine v_aload_n (i := 0) h 765 766 dL_acts_765 rfl rfl ld0 ?_
        refine v_aload_n (i := 2) h 766 767 dL_acts_766 rfl rfl ld2 ?_
        refine v_iload (i := 17) h 767 769 dL_acts_767 rfl ld17 ?_
        refine v_ldE0 h 769 770 nc dL_acts_769 rfl (by omega) ?_
        try simp (disch := omega) only [upd_ne, upd_self]
        rw [q0]
        refine v_aload_n (i := 2) h 770 771 dL_acts_770 rfl rfl ld2 ?_
        refine v_iload (i := 17) h 771 773 dL_acts_771 rfl ld17 ?_
        refine v_iconst (v := nI 1) h 773 774 dL_acts_773 rfl (by decide) ?_
        refine v_iaddN h 774 775 dL_acts_774 rfl ?_
        refine v_ldE h 775 776 nc 1 dL_acts_775 rfl (by omega) (by omega) ?_
        try simp (disch := omega) only [upd_ne, upd_self]
        rw [q1]
        refine v_aload_n (i := 2) h 776 777 dL_acts_776 rfl rfl ld2 ?_
        refine v_iload (i := 17) h 777 779 dL_acts_777 rfl ld17 ?_
        refine v_iconst (v := nI 2) h 779 780 dL_acts_779 rfl (by decide) ?_
        refine v_iaddN h 780 781 dL_acts_780 rfl ?_
        refine v_ldE h 781 782 nc 2 dL_acts_781 rfl (by omega) (by omega) ?_
        try simp (disch := omega) only [upd_ne, upd_self]
        rw [q2v]
        refine v_iload (i := 6) h 782 784 dL_acts_782 rfl ld6 ?_
        refine v_iconst (v := nI 3) h 784 785 dL_acts_784 rfl (by decide) ?_
        refine v_idivN h 785 786 dL_acts_785 rfl (by omega) (by omega) (by omega) ?_
        refine v_iconst (v := nI 3) h 786 787 dL_acts_786 rfl (by decide) ?_
        refine v_iremN h 787 788 dL_acts_787 rfl (by omega) (by omega) (by omega) ?_
        refine v_if_ne h 788 791 795 dL_acts_788 rfl (by decide) (fun h788 => ?_) (fun h788 => absurd (nI_inj (b := 0) (by omega) (by omega) h788) q3)
        refine v_iconst (v := 0) h 795 796 dL_acts_795 rfl (by decide) ?_
        refine v_callS1h h hZ 796 799 dL_acts_796 rfl cb_Lz_addsChair cs_Lz_addsChair lk_L_52 (rok (by decide) (by decide)) ⟨by decide, by decide⟩ (g_addsChair hD_lw (Cd.lw (fun w => c_addChair he hks hI0 (nI_pos (by omega)) (by rw [z0]; exact nI_ge (by omega) (by omega)) (nI_nlt (b := 1) (by omega) (by omega)) (nI_nlt (a := 4) (by omega) (by omega)) (nI_pos (by omega)) (nI_nlt (a := 20) (by omega) (by omega)) (by omega) (by decide)))) rfl rfl (Nat.le_of_ble_eq_true rfl) (fun n796 hn796 => ?_)
        refine V.nx (k' := 0) (n' := 0) (w' := lw E (D + 141) (hangS (upd R 7 (nI (nc + 1))) nc (nI (v % 3)) (nI (1 + v / 7 % 4)) (nI (v / 28 % 6)) 0) (dl E D (hangS (upd S0 7 (nI (nc + 1))) nc (nI (v % 3)) (nI (1 + v / 7 % 4)) (nI (v / 28 % 6)) 0) S1 (va_up Sv e (cpS (Sv e) S0 nc nt)) (nI (min 4 (ks + 1))) (nI ((e + 1) % 4)) 0 (fun _ => 0) (n796, F))) (by decide) (by decide) rfl ?_
        refine v_iload (i := 7) h 799 801 dL_acts_799 rfl ld7 ?_
        refine v_icmp_ne h 801 804 808 dL_acts_801 rfl (by decide) (fun h801 => absurd (congrArg nI (show nc = nc by omega)) h801) (fun h801 => ?_)
        refine v_iconst (v := 1) h 804 805 dL_acts_804 rfl (by decide) ?_
        refine v_goto h 805 809 dL_acts_805 (by decide) ?_
        exact v_zretz h 809 f dL_acts_809 rfl rfl (by decide) (by decide) rfl hn796 rfl

set_option maxRecDepth 100000 in
set_option maxHeartbeats 4000000 in
theorem k_acts {E : EE} (hE : E.1.stackTraces = false) {D n : Nat} {S0 S1 R : St} {Sv : Nat → St} {ks e nc nt ne m : Nat} {F : Nat → Option va_E} (hR : Rl S0 R ks e nc nt ne m) (z : Int32) : ∃ (S0' S1' : St) (Sv' : Nat → St) (ks' e' : Nat) (R' : St) (nc' nt' ne' m' : Nat), Rl S0' R' ks' e' nc' nt' ne' m' ∧ Cz E mL_acts (lw E (D + 141) R (dl E D S0 S1 Sv (nI ks) (nI e) 0 (fun _ => 0) (n, F))) [.ref D, .ref (D + 141), .ref (D + 141 + 1), .ref (D + 141 + 2), .ref (D + 141 + 3), .int z] (some (.int 1)) (lw E (D + 141) R' (dl E D S0' S1' Sv' (nI ks') (nI e') 0 (fun _ => 0) (n, F))) := by
  obtain ⟨v, hv⟩ : ∃ v, v = lowN (z >>> (5 &&& 31)) 10000000 := ⟨_, rfl⟩
  obtain ⟨c0, hc0⟩ : ∃ c0, c0 = if nc = 0 then 0 else v % nc := ⟨_, rfl⟩
  obtain ⟨cs, hcs⟩ : ∃ cs, cs = lowN z 20 := ⟨_, rfl⟩
  have hvl : v < 10000000 := by rw [hv]; exact low_lt (by omega)
  have key : AC E D n S0 S1 Sv ks e R nc v c0 F (aT cs) := by
    unfold aT
    split
    · exact a_ways hE hR hvl hc0
    · split
      · exact a_colds hE hR hvl hc0
      · split
        · exact a_calls hE hR hvl hc0
        · split
          · exact a_team hE hR hvl hc0
          · split
            · exact a_pass hE hR hvl hc0
            · exact a_chair hE hR hvl hc0
  obtain ⟨S0', S1', Sv', ks', e', R', nc', nt', ne', m', hR', hk⟩ := key
  exact ⟨S0', S1', Sv', ks', e', R', nc', nt', ne', m', hR', Cz.of RL rfl (by decide) [some (.ref D), some (.ref (D + 141)), some (.ref (D + 141 + 1)), some (.ref (D + 141 + 2)), some (.ref (D + 141 + 3)), some (.int z), none, none, none, none, none, none, none, none, none, none, none, none] (Nat.le_of_ble_eq_true rfl) rfl (fun _ Γ h hZ f => a_pre h hR.1 hv hc0 hcs (hk Γ z h hZ f))⟩
