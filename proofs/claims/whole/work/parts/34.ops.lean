/-! EACH OPERATION KEEPS THE TWO ALIKE -/
theorem not2 {a b : Prop} (h : ¬ (a ∨ b)) : ¬ a ∧ ¬ b := ⟨fun q => h (Or.inl q), fun q => h (Or.inr q)⟩
theorem op_addChair {E : EE} (hE : E.1.stackTraces = false) {D n : Nat} {g : Nat → Int64} {w0 : Nat → Option va_E} {d : DR} {r : MR} {t : St} (hR : Rel d r t) (a1 : Int32) (a2 : Int32) (a3 : Int32) (a4 : Int32) (hz : a4 = 0 ∨ a4 = 1) : OPR E D mL_addChair hL_addChair mX4_addChair [.int a1, .int a2, .int a3, .int a4] d r t n g w0 := by
  obtain ⟨S0, S1, Sv, ks, e, tn, tx⟩ := d
  obtain ⟨S, Ps, A, K, N, I, hh⟩ := r
  have hOk : Ok S0 S := hR.1
  obtain ⟨sp, nc, nt, ne, m, hI, hm, hA⟩ := hOk
  have hI0 := hA.inv hI
  have he : e < 4 := hR.2.1.1
  have hks : ks ≤ 4 := hR.2.1.2.1
  have i0 : I 0 = nI ks := hR.2.1.2.2
  have htn : tn ≤ 100 := hR.2.2.1.1
  have i1 : I 1 = nI tn := hR.2.2.1.2.1
  have htx : tx = t := hR.2.2.1.2.2
  have hSv : SvR Sv e ks Ps := hR.2.2.2
  have q0 : S0 0 = S 0 := hA.lo (by omega)
  have q7 : S0 7 = S 7 := hA.lo (by omega)
  have q8 : S0 8 = S 8 := hA.lo (by omega)
  have q9 : S0 9 = S 9 := hA.lo (by omega)
  have q12 : S0 12 = S 12 := hA.lo (by omega)
  have hsp1 := hI.1.1.2.1
  have hsp := hI.1.1.2.2.1
  have hnc := hI.n14
  have hnt := hI.n4
  have hnl := hI.nle
  by_cases z1 : a1 < 0 ∨ S 0 ≤ a1
  · exact OPR.thr hR (by decide) (t_addChair1 sW_d (x_addChair1 hE (show _ ∨ S0 0 ≤ _ by rw [q0]; exact z1))) (fun w => r_addChair1 z1)
  obtain ⟨y1, y2⟩ := not2 z1
  by_cases z2 : a2 < 1 ∨ 4 < a2
  · exact OPR.thr hR (by decide) (t_addChair2 sW_d (x_addChair2 hE y1 (show ¬ S0 0 ≤ _ by rw [q0]; exact y2) z2)) (fun w => r_addChair2 y1 y2 z2)
  obtain ⟨y3, y4⟩ := not2 z2
  by_cases z3 : a3 < 0 ∨ 20 < a3
  · exact OPR.thr hR (by decide) (t_addChair2 sW_d (x_addChair2b hE y1 (show ¬ S0 0 ≤ _ by rw [q0]; exact y2) y3 y4 z3)) (fun w => r_addChair2b y1 y2 y3 y4 z3)
  obtain ⟨y5, y6⟩ := not2 z3
  by_cases z4 : nc = 14
  · subst z4
    exact OPR.thr hR (by decide) (t_addChair3 sW_d (x_addChair3 hE y1 (show ¬ S0 0 ≤ _ by rw [q0]; exact y2) y3 y4 y5 y6 hI0.c7)) (fun w => r_addChair3 y1 y2 y3 y4 y5 y6 hI.c7)
  have h14 : nc < 14 := by omega
  obtain ⟨a, ha, rfl⟩ := idx (b := sp) (by omega) y1 (by rw [← hI.1.1.1]; exact y2)
  obtain ⟨ri, hr1, hr2, rfl⟩ := rng (a := 1) (b := 4) (by decide) (by decide) y3 y4
  obtain ⟨co, hc1, hc2, rfl⟩ := rng (a := 0) (b := 20) (by decide) (by decide) y5 y6
  exact OPR.got (d' := (hangS (upd S0 7 (nI (nc + 1))) nc (nI a) (nI ri) (nI co) a4, S1, va_up Sv e (cpS (Sv e) S0 nc nt), min 4 (ks + 1), (e + 1) % 4, tn, tx)) (g_addChair sW_d sW_o (c_addChair he hks hI0 y1 (show ¬ S0 0 ≤ _ by rw [q0]; exact y2) y3 y4 y5 y6 h14 hz)) (fun w => r_addChair y1 y2 y3 y4 y5 y6 hI.c7 h14 hz hks i0) (upd_self (upd I 0 (nI (min 4 (ks + 1)))) 2 0) (rel_end hR hI hm hA ⟨sp, nc + 1, nt, ne, m, inv_addC hI h14 ha hr1 hr2 hc2 hz, hm, hA.hang _ _ _ _ _⟩ ((upd_ne _ _ (by omega)).trans (upd_self _ _ _)) ((upd_ne _ _ (by omega)).trans (upd_ne _ _ (by omega))))
theorem op_addTeam {E : EE} (hE : E.1.stackTraces = false) {D n : Nat} {g : Nat → Int64} {w0 : Nat → Option va_E} {d : DR} {r : MR} {t : St} (hR : Rel d r t) (a1 : Int32) (a2 : Int32)  : OPR E D mL_addTeam hL_addTeam mX4_addTeam [.int a1, .int a2] d r t n g w0 := by
  obtain ⟨S0, S1, Sv, ks, e, tn, tx⟩ := d
  obtain ⟨S, Ps, A, K, N, I, hh⟩ := r
  have hOk : Ok S0 S := hR.1
  obtain ⟨sp, nc, nt, ne, m, hI, hm, hA⟩ := hOk
  have hI0 := hA.inv hI
  have he : e < 4 := hR.2.1.1
  have hks : ks ≤ 4 := hR.2.1.2.1
  have i0 : I 0 = nI ks := hR.2.1.2.2
  have htn : tn ≤ 100 := hR.2.2.1.1
  have i1 : I 1 = nI tn := hR.2.2.1.2.1
  have htx : tx = t := hR.2.2.1.2.2
  have hSv : SvR Sv e ks Ps := hR.2.2.2
  have q0 : S0 0 = S 0 := hA.lo (by omega)
  have q7 : S0 7 = S 7 := hA.lo (by omega)
  have q8 : S0 8 = S 8 := hA.lo (by omega)
  have q9 : S0 9 = S 9 := hA.lo (by omega)
  have q12 : S0 12 = S 12 := hA.lo (by omega)
  have hsp1 := hI.1.1.2.1
  have hsp := hI.1.1.2.2.1
  have hnc := hI.n14
  have hnt := hI.n4
  have hnl := hI.nle
  by_cases z1 : a1 < 0 ∨ S 0 ≤ a1
  · exact OPR.thr hR (by decide) (t_addTeam1 sW_d (x_addTeam1 hE (show _ ∨ S0 0 ≤ _ by rw [q0]; exact z1))) (fun w => r_addTeam1 z1)
  obtain ⟨y1, y2⟩ := not2 z1
  by_cases z2 : a2 < 0 ∨ 30 < a2
  · exact OPR.thr hR (by decide) (t_addTeam2 sW_d (x_addTeam2 hE y1 (show ¬ S0 0 ≤ _ by rw [q0]; exact y2) z2)) (fun w => r_addTeam2 y1 y2 z2)
  obtain ⟨y3, y4⟩ := not2 z2
  by_cases z4 : nt = 4
  · subst z4
    exact OPR.thr hR (by decide) (t_addTeam3 sW_d (x_addTeam3 hE y1 (show ¬ S0 0 ≤ _ by rw [q0]; exact y2) y3 y4 hI0.c8)) (fun w => r_addTeam3 y1 y2 y3 y4 hI.c8)
  have h4 : nt < 4 := by omega
  obtain ⟨a, ha, rfl⟩ := idx (b := sp) (by omega) y1 (by rw [← hI.1.1.1]; exact y2)
  obtain ⟨ti, ht1, ht2, rfl⟩ := rng (a := 0) (b := 30) (by decide) (by decide) y3 y4
  exact OPR.got (d' := (standS (upd S0 8 (nI (nt + 1))) nt (nI a) (nI ti), S1, va_up Sv e (cpS (Sv e) S0 nc nt), min 4 (ks + 1), (e + 1) % 4, tn, tx)) (g_addTeam sW_d sW_o (c_addTeam he hks hI0 y1 (show ¬ S0 0 ≤ _ by rw [q0]; exact y2) y3 y4 h4)) (fun w => r_addTeam y1 y2 y3 y4 hI.c8 h4 hks i0) (upd_self (upd I 0 (nI (min 4 (ks + 1)))) 2 0) (rel_end hR hI hm hA ⟨sp, nc, nt + 1, ne, m, inv_addT hI h4 ha ht2, hm, hA.stand _ _ _⟩ ((upd_ne _ _ (by omega)).trans (upd_self _ _ _)) ((upd_ne _ _ (by omega)).trans (upd_ne _ _ (by omega))))
theorem op_setWay {E : EE} (hE : E.1.stackTraces = false) {D n : Nat} {g : Nat → Int64} {w0 : Nat → Option va_E} {d : DR} {r : MR} {t : St} (hR : Rel d r t) (a1 : Int32) (a2 : Int32)  : OPR E D mL_setWay hL_setWay mX4_setWay [.int a1, .int a2] d r t n g w0 := by
  obtain ⟨S0, S1, Sv, ks, e, tn, tx⟩ := d
  obtain ⟨S, Ps, A, K, N, I, hh⟩ := r
  have hOk : Ok S0 S := hR.1
  obtain ⟨sp, nc, nt, ne, m, hI, hm, hA⟩ := hOk
  have hI0 := hA.inv hI
  have he : e < 4 := hR.2.1.1
  have hks : ks ≤ 4 := hR.2.1.2.1
  have i0 : I 0 = nI ks := hR.2.1.2.2
  have htn : tn ≤ 100 := hR.2.2.1.1
  have i1 : I 1 = nI tn := hR.2.2.1.2.1
  have htx : tx = t := hR.2.2.1.2.2
  have hSv : SvR Sv e ks Ps := hR.2.2.2
  have q0 : S0 0 = S 0 := hA.lo (by omega)
  have q7 : S0 7 = S 7 := hA.lo (by omega)
  have q8 : S0 8 = S 8 := hA.lo (by omega)
  have q9 : S0 9 = S 9 := hA.lo (by omega)
  have q12 : S0 12 = S 12 := hA.lo (by omega)
  have hsp1 := hI.1.1.2.1
  have hsp := hI.1.1.2.2.1
  have hnc := hI.n14
  have hnt := hI.n4
  have hnl := hI.nle
  by_cases z1 : a1 < 0 ∨ S 0 - 2 < a1
  · exact OPR.thr hR (by decide) (t_setWay1 sW_d (x_setWay1 hE hI0 (show _ ∨ S0 0 - 2 < _ by rw [q0]; exact z1))) (fun w => r_setWay1 z1)
  obtain ⟨y1, y2⟩ := not2 z1
  by_cases z2 : a2 < 1 ∨ 20 < a2
  · exact OPR.thr hR (by decide) (t_setWay2 sW_d (x_setWay2 hE hI0 y1 (show ¬ S0 0 - 2 < _ by rw [q0]; exact y2) z2)) (fun w => r_setWay2 y1 y2 z2)
  obtain ⟨y3, y4⟩ := not2 z2
  obtain ⟨k, hk, rfl⟩ := idx (b := sp - 1) (by omega) y1 (by rw [← pk_sub (a := sp) (b := 1) (by omega)]; intro q; exact y2 (by rw [hI.1.1.1]; rw [← way_lt hsp1 hsp y1]; exact q))
  obtain ⟨mi, hm1, hm2, rfl⟩ := rng (a := 1) (b := 20) (by decide) (by decide) y3 y4
  have hk6 : k < 6 := by omega
  exact OPR.got (d' := (upd S0 (1 + k) (nI mi), S1, va_up Sv e (cpS (Sv e) S0 nc nt), min 4 (ks + 1), (e + 1) % 4, tn, tx)) (g_setWay sW_d sW_o (by have c := c_setWay (E := E) (D := D) (S1 := S1) (Sv := Sv) (tl := nI tn) (tx := tx) (w := mW E (D + 141) (S, Ps, A, K, N, I, hh) t (ow E (D + 148) n g w0)) he hks hI0 y1 (show ¬ S0 0 - 2 < _ by rw [q0]; exact y2) hk6 y3 y4; rw [show S0 (1 + k) = S (1 + k) from hA.lo (by omega)] at c; exact c)) (fun w => r_setWay y1 y2 hk6 y3 y4 hks i0) (upd_self (upd I 0 (nI (min 4 (ks + 1)))) 2 0) (rel_end hR hI hm hA ⟨sp, nc, nt, ne, m, inv_way hI hk6 hm1 hm2, hm, hA.up rfl⟩ ((upd_ne _ _ (by omega)).trans (upd_self _ _ _)) ((upd_ne _ _ (by omega)).trans (upd_ne _ _ (by omega))))
theorem op_setCold {E : EE} (hE : E.1.stackTraces = false) {D n : Nat} {g : Nat → Int64} {w0 : Nat → Option va_E} {d : DR} {r : MR} {t : St} (hR : Rel d r t) (a1 : Int32) (a2 : Int32)  : OPR E D mL_setCold hL_setCold mX4_setCold [.int a1, .int a2] d r t n g w0 := by
  obtain ⟨S0, S1, Sv, ks, e, tn, tx⟩ := d
  obtain ⟨S, Ps, A, K, N, I, hh⟩ := r
  have hOk : Ok S0 S := hR.1
  obtain ⟨sp, nc, nt, ne, m, hI, hm, hA⟩ := hOk
  have hI0 := hA.inv hI
  have he : e < 4 := hR.2.1.1
  have hks : ks ≤ 4 := hR.2.1.2.1
  have i0 : I 0 = nI ks := hR.2.1.2.2
  have htn : tn ≤ 100 := hR.2.2.1.1
  have i1 : I 1 = nI tn := hR.2.2.1.2.1
  have htx : tx = t := hR.2.2.1.2.2
  have hSv : SvR Sv e ks Ps := hR.2.2.2
  have q0 : S0 0 = S 0 := hA.lo (by omega)
  have q7 : S0 7 = S 7 := hA.lo (by omega)
  have q8 : S0 8 = S 8 := hA.lo (by omega)
  have q9 : S0 9 = S 9 := hA.lo (by omega)
  have q12 : S0 12 = S 12 := hA.lo (by omega)
  have hsp1 := hI.1.1.2.1
  have hsp := hI.1.1.2.2.1
  have hnc := hI.n14
  have hnt := hI.n4
  have hnl := hI.nle
  by_cases z1 : a1 < 0 ∨ S 7 ≤ a1
  · exact OPR.thr hR (by decide) (t_setCold1 sW_d (x_setCold1 hE (show _ ∨ S0 7 ≤ _ by rw [q7]; exact z1))) (fun w => r_setCold1 z1)
  obtain ⟨y1, y2⟩ := not2 z1
  obtain ⟨c, hc, rfl⟩ := idx (b := nc) (by omega) y1 (by rw [← hI.c7]; exact y2)
  have hc14 : c < 14 := by omega
  by_cases z2 : a2 < 0 ∨ 20 < a2
  · exact OPR.thr hR (by decide) (t_setCold2 sW_d (x_setCold2 hE hI0 hc z2)) (fun w => r_setCold2 y1 y2 z2)
  obtain ⟨y3, y4⟩ := not2 z2
  have qs : S0 (13 + 8 * c + 4) = S (13 + 8 * c + 4) := hA.ch hc (by omega)
  by_cases z3 : S (13 + 8 * c + 4) = 2
  · exact OPR.thr hR (by decide) (t_setCold3 sW_d (x_setCold3 hE hI0 hc y3 y4 (qs.trans z3))) (fun w => r_setCold3 hc14 y1 y2 y3 y4 z3)
  obtain ⟨co, hc1, hc2, rfl⟩ := rng (a := 0) (b := 20) (by decide) (by decide) y3 y4
  exact OPR.got (d' := (upd S0 (13 + 8 * c + 2) (nI co), S1, va_up Sv e (cpS (Sv e) S0 nc nt), min 4 (ks + 1), (e + 1) % 4, tn, tx)) (g_setCold sW_d sW_o (by have cc := c_setCold (E := E) (D := D) (S1 := S1) (Sv := Sv) (tl := nI tn) (tx := tx) (w := mW E (D + 141) (S, Ps, A, K, N, I, hh) t (ow E (D + 148) n g w0)) he hks hI0 hc y3 y4 (show ¬ S0 (13 + 8 * c + 4) = 2 by rw [qs]; exact z3); rw [show S0 (13 + 8 * c + 2) = S (13 + 8 * c + 2) from hA.ch hc (by omega)] at cc; exact cc)) (fun w => r_setCold hc14 y1 y2 y3 y4 z3 hks i0) (upd_self (upd I 0 (nI (min 4 (ks + 1)))) 2 0) (rel_end hR hI hm hA ⟨sp, nc, nt, ne, m, inv_cold hI hc2 hc14, hm, hA.up rfl⟩ ((upd_ne _ _ (by omega)).trans (upd_self _ _ _)) ((upd_ne _ _ (by omega)).trans (upd_ne _ _ (by omega))))
theorem op_callOff {E : EE} (hE : E.1.stackTraces = false) {D n : Nat} {g : Nat → Int64} {w0 : Nat → Option va_E} {d : DR} {r : MR} {t : St} (hR : Rel d r t) (a1 : Int32)  : OPR E D mL_callOff hL_callOff mX4_callOff [.int a1] d r t n g w0 := by
  obtain ⟨S0, S1, Sv, ks, e, tn, tx⟩ := d
  obtain ⟨S, Ps, A, K, N, I, hh⟩ := r
  have hOk : Ok S0 S := hR.1
  obtain ⟨sp, nc, nt, ne, m, hI, hm, hA⟩ := hOk
  have hI0 := hA.inv hI
  have he : e < 4 := hR.2.1.1
  have hks : ks ≤ 4 := hR.2.1.2.1
  have i0 : I 0 = nI ks := hR.2.1.2.2
  have htn : tn ≤ 100 := hR.2.2.1.1
  have i1 : I 1 = nI tn := hR.2.2.1.2.1
  have htx : tx = t := hR.2.2.1.2.2
  have hSv : SvR Sv e ks Ps := hR.2.2.2
  have q0 : S0 0 = S 0 := hA.lo (by omega)
  have q7 : S0 7 = S 7 := hA.lo (by omega)
  have q8 : S0 8 = S 8 := hA.lo (by omega)
  have q9 : S0 9 = S 9 := hA.lo (by omega)
  have q12 : S0 12 = S 12 := hA.lo (by omega)
  have hsp1 := hI.1.1.2.1
  have hsp := hI.1.1.2.2.1
  have hnc := hI.n14
  have hnt := hI.n4
  have hnl := hI.nle
  by_cases z1 : a1 < 0 ∨ S 8 ≤ a1
  · exact OPR.thr hR (by decide) (t_callOff1 sW_d (x_callOff1 hE (show _ ∨ S0 8 ≤ _ by rw [q8]; exact z1))) (fun w => r_callOff1 z1)
  obtain ⟨y1, y2⟩ := not2 z1
  obtain ⟨u, hu, rfl⟩ := idx (b := nt) (by omega) y1 (by rw [← hI.c8]; exact y2)
  have q4 : S0 (125 + 8 * u + 4) = S (125 + 8 * u + 4) := hA.tm hu (by omega)
  have hcase : S (125 + 8 * u + 4) = -1 ∨ ∃ c, c < nc ∧ S (125 + 8 * u + 4) = nI c := by
    rcases (hI.2.2.2 u hu).2.2 with ⟨-, q⟩ | ⟨-, c, hc, e4, -⟩
    · exact Or.inl q
    · exact Or.inr ⟨c, hc, e4⟩
  rcases hcase with e4 | ⟨c, hc, e4⟩
  · exact OPR.got (d' := (idleS S0 u, S1, va_up Sv e (cpS (Sv e) S0 nc nt), min 4 (ks + 1), (e + 1) % 4, tn, tx)) (g_callOff sW_d sW_o (c_callOff0 he hks hI0 hu (q4.trans e4))) (fun w => r_callOff0 (by omega) y1 y2 e4 hks i0) (upd_self (upd I 0 (nI (min 4 (ks + 1)))) 2 0) (rel_end hR hI hm hA ⟨sp, nc, nt, ne, m, inv_idle hI hu, hm, hA.idle u⟩ ((upd_ne _ _ (by omega)).trans (upd_self _ _ _)) ((upd_ne _ _ (by omega)).trans (upd_ne _ _ (by omega))))
  · exact OPR.got (d' := (idleS (waitS S0 c) u, S1, va_up Sv e (cpS (Sv e) S0 nc nt), min 4 (ks + 1), (e + 1) % 4, tn, tx)) (g_callOff sW_d sW_o (c_callOff he hks hI0 hu hc (q4.trans e4))) (fun w => r_callOff (by omega) (by omega) y1 y2 e4 hks i0) (upd_self (upd I 0 (nI (min 4 (ks + 1)))) 2 0) (rel_end hR hI hm hA ⟨sp, nc, nt, ne, m, inv_off hI hu hc e4, hm, (hA.wait c).idle u⟩ ((upd_ne _ _ (by omega)).trans (upd_self _ _ _)) ((upd_ne _ _ (by omega)).trans (upd_ne _ _ (by omega))))
theorem op_pass {E : EE} (hE : E.1.stackTraces = false) {D n : Nat} {g : Nat → Int64} {w0 : Nat → Option va_E} {d : DR} {r : MR} {t : St} (hR : Rel d r t) (a1 : Int32)  : OPR E D mL_pass hL_pass mX4_pass [.int a1] d r t n g w0 := by
  obtain ⟨S0, S1, Sv, ks, e, tn, tx⟩ := d
  obtain ⟨S, Ps, A, K, N, I, hh⟩ := r
  have hOk : Ok S0 S := hR.1
  obtain ⟨sp, nc, nt, ne, m, hI, hm, hA⟩ := hOk
  have hI0 := hA.inv hI
  have he : e < 4 := hR.2.1.1
  have hks : ks ≤ 4 := hR.2.1.2.1
  have i0 : I 0 = nI ks := hR.2.1.2.2
  have htn : tn ≤ 100 := hR.2.2.1.1
  have i1 : I 1 = nI tn := hR.2.2.1.2.1
  have htx : tx = t := hR.2.2.1.2.2
  have hSv : SvR Sv e ks Ps := hR.2.2.2
  have q0 : S0 0 = S 0 := hA.lo (by omega)
  have q7 : S0 7 = S 7 := hA.lo (by omega)
  have q8 : S0 8 = S 8 := hA.lo (by omega)
  have q9 : S0 9 = S 9 := hA.lo (by omega)
  have q12 : S0 12 = S 12 := hA.lo (by omega)
  have hsp1 := hI.1.1.2.1
  have hsp := hI.1.1.2.2.1
  have hnc := hI.n14
  have hnt := hI.n4
  have hnl := hI.nle
  by_cases z1 : a1 < 1 ∨ 500 < a1
  · exact OPR.thr hR (by decide) (t_pass1 sW_d (x_pass1 hE z1)) (fun w => r_pass1 z1)
  obtain ⟨y1, y2⟩ := not2 z1
  by_cases z2 : S 9 + a1 ≤ 5000
  · obtain ⟨k, hk1, hk2, rfl⟩ := rng (a := 1) (b := 500) (by decide) (by decide) y1 y2
    have hmk : m + k ≤ 5000 := by
      rw [hI.c9, nI_add] at z2
      exact (nI_leI (a := m + k) (b := 5000) (by omega) (by decide)).mp z2
    obtain ⟨ne', pa, pi⟩ := pas_ag hA hI k
    exact OPR.got (d' := (pasS nc nt S0 m k, S1, va_up Sv e (cpS (Sv e) S0 nc nt), min 4 (ks + 1), (e + 1) % 4, tn, tx)) (g_pass sW_d sW_o (by have cc := c_pass (E := E) (D := D) (S1 := S1) (Sv := Sv) (tl := nI tn) (tx := tx) (w := mW E (D + 141) (S, Ps, A, K, N, I, hh) t (ow E (D + 148) n g w0)) he hks hI0 y1 y2 (show S0 9 + _ ≤ 5000 by rw [q9]; exact z2) hk2 hm; rw [show pasS nc nt S0 m k 12 = pasS nc nt S m k 12 from pa.lo (by omega), q12] at cc; exact cc)) (fun w => r_pass hI y1 y2 z2 hk2 hm hks i0) (upd_self (upd I 0 (nI (min 4 (ks + 1)))) 2 0) (rel_end hR hI hm hA ⟨sp, nc, nt, ne', m + k, pi, hmk, pa⟩ ((upd_ne _ _ (by omega)).trans (upd_self _ _ _)) ((upd_ne _ _ (by omega)).trans (upd_ne _ _ (by omega))))
  · exact OPR.thr hR (by decide) (t_pass2 sW_d (x_pass2 hE y1 y2 (show ¬ S0 9 + _ ≤ 5000 by rw [q9]; exact z2))) (fun w => r_pass2 y1 y2 z2)
theorem op_chair {E : EE} (hE : E.1.stackTraces = false) {D n : Nat} {g : Nat → Int64} {w0 : Nat → Option va_E} {d : DR} {r : MR} {t : St} (hR : Rel d r t) (a1 : Int32) (a2 : Int32)  : OPR E D mL_chair hL_chair mX4_chair [.int a1, .int a2] d r t n g w0 := by
  obtain ⟨S0, S1, Sv, ks, e, tn, tx⟩ := d
  obtain ⟨S, Ps, A, K, N, I, hh⟩ := r
  have hOk : Ok S0 S := hR.1
  obtain ⟨sp, nc, nt, ne, m, hI, hm, hA⟩ := hOk
  have hI0 := hA.inv hI
  have he : e < 4 := hR.2.1.1
  have hks : ks ≤ 4 := hR.2.1.2.1
  have i0 : I 0 = nI ks := hR.2.1.2.2
  have htn : tn ≤ 100 := hR.2.2.1.1
  have i1 : I 1 = nI tn := hR.2.2.1.2.1
  have htx : tx = t := hR.2.2.1.2.2
  have hSv : SvR Sv e ks Ps := hR.2.2.2
  have q0 : S0 0 = S 0 := hA.lo (by omega)
  have q7 : S0 7 = S 7 := hA.lo (by omega)
  have q8 : S0 8 = S 8 := hA.lo (by omega)
  have q9 : S0 9 = S 9 := hA.lo (by omega)
  have q12 : S0 12 = S 12 := hA.lo (by omega)
  have hsp1 := hI.1.1.2.1
  have hsp := hI.1.1.2.2.1
  have hnc := hI.n14
  have hnt := hI.n4
  have hnl := hI.nle
  by_cases z1 : a1 < 0 ∨ S 7 ≤ a1
  · exact OPR.thr hR (by decide) (t_chair1 sW_d (x_chair1 hE (show _ ∨ S0 7 ≤ _ by rw [q7]; exact z1))) (fun w => r_chair1 z1)
  obtain ⟨y1, y2⟩ := not2 z1
  obtain ⟨c, hc, rfl⟩ := idx (b := nc) (by omega) y1 (by rw [← hI.c7]; exact y2)
  by_cases z2 : a2 < 0 ∨ 8 < a2
  · exact OPR.thr hR (by decide) (t_chair2 sW_d (x_chair2 hE hI0 hc z2)) (fun w => r_chair2 y1 y2 z2)
  obtain ⟨y3, y4⟩ := not2 z2
  obtain ⟨k, hk1, hk2, rfl⟩ := rng (a := 0) (b := 8) (by decide) (by decide) y3 y4
  have ef : chFact S0 c k = chFact S c k := hA.fact hc (by omega)
  exact OPR.got (d' := (S0, S1, Sv, ks, e, tn, tx)) (g_chair sW_d sW_o (by rw [← ef]; exact c_chair hI0 hc (by omega))) (fun w => r_chair (by omega) (by omega) y1 y2 (hI.chz c hc) y3 y4) (upd_self I 2 0) (rel_I hR (upd_ne _ _ (by omega)) (upd_ne _ _ (by omega)))
theorem op_team {E : EE} (hE : E.1.stackTraces = false) {D n : Nat} {g : Nat → Int64} {w0 : Nat → Option va_E} {d : DR} {r : MR} {t : St} (hR : Rel d r t) (a1 : Int32) (a2 : Int32)  : OPR E D mL_team hL_team mX4_team [.int a1, .int a2] d r t n g w0 := by
  obtain ⟨S0, S1, Sv, ks, e, tn, tx⟩ := d
  obtain ⟨S, Ps, A, K, N, I, hh⟩ := r
  have hOk : Ok S0 S := hR.1
  obtain ⟨sp, nc, nt, ne, m, hI, hm, hA⟩ := hOk
  have hI0 := hA.inv hI
  have he : e < 4 := hR.2.1.1
  have hks : ks ≤ 4 := hR.2.1.2.1
  have i0 : I 0 = nI ks := hR.2.1.2.2
  have htn : tn ≤ 100 := hR.2.2.1.1
  have i1 : I 1 = nI tn := hR.2.2.1.2.1
  have htx : tx = t := hR.2.2.1.2.2
  have hSv : SvR Sv e ks Ps := hR.2.2.2
  have q0 : S0 0 = S 0 := hA.lo (by omega)
  have q7 : S0 7 = S 7 := hA.lo (by omega)
  have q8 : S0 8 = S 8 := hA.lo (by omega)
  have q9 : S0 9 = S 9 := hA.lo (by omega)
  have q12 : S0 12 = S 12 := hA.lo (by omega)
  have hsp1 := hI.1.1.2.1
  have hsp := hI.1.1.2.2.1
  have hnc := hI.n14
  have hnt := hI.n4
  have hnl := hI.nle
  by_cases z1 : a1 < 0 ∨ S 8 ≤ a1
  · exact OPR.thr hR (by decide) (t_team1 sW_d (x_team1 hE (show _ ∨ S0 8 ≤ _ by rw [q8]; exact z1))) (fun w => r_team1 z1)
  obtain ⟨y1, y2⟩ := not2 z1
  obtain ⟨u, hu, rfl⟩ := idx (b := nt) (by omega) y1 (by rw [← hI.c8]; exact y2)
  by_cases z2 : a2 < 0 ∨ 7 < a2
  · exact OPR.thr hR (by decide) (t_team2 sW_d (x_team2 hE hI0 hu z2)) (fun w => r_team2 y1 y2 z2)
  obtain ⟨y3, y4⟩ := not2 z2
  obtain ⟨k, hk1, hk2, rfl⟩ := rng (a := 0) (b := 7) (by decide) (by decide) y3 y4
  have ef : S0 (125 + 8 * u + k) = S (125 + 8 * u + k) := hA.tm hu (by omega)
  exact OPR.got (d' := (S0, S1, Sv, ks, e, tn, tx)) (g_team sW_d sW_o (by rw [← ef]; exact c_team hI0 hu (by omega))) (fun w => r_team (by omega) (by omega) y1 y2 y3 y4) (upd_self I 2 0) (rel_I hR (upd_ne _ _ (by omega)) (upd_ne _ _ (by omega)))
theorem op_value {E : EE} (hE : E.1.stackTraces = false) {D n : Nat} {g : Nat → Int64} {w0 : Nat → Option va_E} {d : DR} {r : MR} {t : St} (hR : Rel d r t) (a1 : Int32)  : OPR E D mL_value hL_value mX4_value [.int a1] d r t n g w0 := by
  obtain ⟨S0, S1, Sv, ks, e, tn, tx⟩ := d
  obtain ⟨S, Ps, A, K, N, I, hh⟩ := r
  have hOk : Ok S0 S := hR.1
  obtain ⟨sp, nc, nt, ne, m, hI, hm, hA⟩ := hOk
  have hI0 := hA.inv hI
  have he : e < 4 := hR.2.1.1
  have hks : ks ≤ 4 := hR.2.1.2.1
  have i0 : I 0 = nI ks := hR.2.1.2.2
  have htn : tn ≤ 100 := hR.2.2.1.1
  have i1 : I 1 = nI tn := hR.2.2.1.2.1
  have htx : tx = t := hR.2.2.1.2.2
  have hSv : SvR Sv e ks Ps := hR.2.2.2
  have q0 : S0 0 = S 0 := hA.lo (by omega)
  have q7 : S0 7 = S 7 := hA.lo (by omega)
  have q8 : S0 8 = S 8 := hA.lo (by omega)
  have q9 : S0 9 = S 9 := hA.lo (by omega)
  have q12 : S0 12 = S 12 := hA.lo (by omega)
  have hsp1 := hI.1.1.2.1
  have hsp := hI.1.1.2.2.1
  have hnc := hI.n14
  have hnt := hI.n4
  have hnl := hI.nle
  by_cases z2 : a1 < 0 ∨ 11 < a1
  · exact OPR.thr hR (by decide) (t_value1 sW_d (x_value1 hE z2)) (fun w => r_value1 z2)
  obtain ⟨y3, y4⟩ := not2 z2
  obtain ⟨k, hk1, hk2, rfl⟩ := rng (a := 0) (b := 11) (by decide) (by decide) y3 y4
  have ef : lnFact S0 nc k = lnFact S nc k := hA.ln (by omega)
  exact OPR.got (d' := (S0, S1, Sv, ks, e, tn, tx)) (g_value sW_d sW_o (by rw [← ef]; exact c_value hI0 (by omega))) (fun w => r_value hI.c7 hnc hI.chz (by omega) y3 y4) (upd_self I 2 0) (rel_I hR (upd_ne _ _ (by omega)) (upd_ne _ _ (by omega)))
theorem op_way {E : EE} (hE : E.1.stackTraces = false) {D n : Nat} {g : Nat → Int64} {w0 : Nat → Option va_E} {d : DR} {r : MR} {t : St} (hR : Rel d r t) (a1 : Int32) (a2 : Int32)  : OPR E D mL_way hL_way mX4_way [.int a1, .int a2] d r t n g w0 := by
  obtain ⟨S0, S1, Sv, ks, e, tn, tx⟩ := d
  obtain ⟨S, Ps, A, K, N, I, hh⟩ := r
  have hOk : Ok S0 S := hR.1
  obtain ⟨sp, nc, nt, ne, m, hI, hm, hA⟩ := hOk
  have hI0 := hA.inv hI
  have he : e < 4 := hR.2.1.1
  have hks : ks ≤ 4 := hR.2.1.2.1
  have i0 : I 0 = nI ks := hR.2.1.2.2
  have htn : tn ≤ 100 := hR.2.2.1.1
  have i1 : I 1 = nI tn := hR.2.2.1.2.1
  have htx : tx = t := hR.2.2.1.2.2
  have hSv : SvR Sv e ks Ps := hR.2.2.2
  have q0 : S0 0 = S 0 := hA.lo (by omega)
  have q7 : S0 7 = S 7 := hA.lo (by omega)
  have q8 : S0 8 = S 8 := hA.lo (by omega)
  have q9 : S0 9 = S 9 := hA.lo (by omega)
  have q12 : S0 12 = S 12 := hA.lo (by omega)
  have hsp1 := hI.1.1.2.1
  have hsp := hI.1.1.2.2.1
  have hnc := hI.n14
  have hnt := hI.n4
  have hnl := hI.nle
  by_cases z1 : a1 < 0 ∨ S 0 ≤ a1
  · exact OPR.thr hR (by decide) (t_way1 sW_d (x_way1 hE (show _ ∨ S0 0 ≤ _ by rw [q0]; exact z1))) (fun w => r_way1 z1)
  obtain ⟨y1, y2⟩ := not2 z1
  by_cases z2 : a2 < 0 ∨ S 0 ≤ a2
  · exact OPR.thr hR (by decide) (t_way1 sW_d (x_way1b hE y1 (show ¬ S0 0 ≤ _ by rw [q0]; exact y2) (show _ ∨ S0 0 ≤ _ by rw [q0]; exact z2))) (fun w => r_way1b y1 y2 z2)
  obtain ⟨y3, y4⟩ := not2 z2
  obtain ⟨a, ha, rfl⟩ := idx (b := sp) (by omega) y1 (by rw [← hI.1.1.1]; exact y2)
  obtain ⟨b, hb, rfl⟩ := idx (b := sp) (by omega) y3 (by rw [← hI.1.1.1]; exact y4)
  have ia : InS (nI a) := ⟨a, by omega, rfl⟩
  have ib : InS (nI b) := ⟨b, by omega, rfl⟩
  have ef : wayV S0 (nI a) (nI b) = wayV S (nI a) (nI b) := hA.way ia ib
  exact OPR.got (d' := (S0, S1, Sv, ks, e, tn, tx)) (g_way sW_d sW_o (by rw [← ef]; exact c_way y1 (show ¬ S0 0 ≤ _ by rw [q0]; exact y2) y3 (show ¬ S0 0 ≤ _ by rw [q0]; exact y4) ia ib)) (fun w => r_way y1 y2 y3 y4 ia ib) (upd_self I 2 0) (rel_I hR (upd_ne _ _ (by omega)) (upd_ne _ _ (by omega)))
theorem op_work {E : EE} (hE : E.1.stackTraces = false) {D n : Nat} {g : Nat → Int64} {w0 : Nat → Option va_E} {d : DR} {r : MR} {t : St} (hR : Rel d r t) (a1 : Int32) (a2 : Int32)  : OPR E D mL_work hL_work mX4_work [.int a1, .int a2] d r t n g w0 := by
  obtain ⟨S0, S1, Sv, ks, e, tn, tx⟩ := d
  obtain ⟨S, Ps, A, K, N, I, hh⟩ := r
  have hOk : Ok S0 S := hR.1
  obtain ⟨sp, nc, nt, ne, m, hI, hm, hA⟩ := hOk
  have hI0 := hA.inv hI
  have he : e < 4 := hR.2.1.1
  have hks : ks ≤ 4 := hR.2.1.2.1
  have i0 : I 0 = nI ks := hR.2.1.2.2
  have htn : tn ≤ 100 := hR.2.2.1.1
  have i1 : I 1 = nI tn := hR.2.2.1.2.1
  have htx : tx = t := hR.2.2.1.2.2
  have hSv : SvR Sv e ks Ps := hR.2.2.2
  have q0 : S0 0 = S 0 := hA.lo (by omega)
  have q7 : S0 7 = S 7 := hA.lo (by omega)
  have q8 : S0 8 = S 8 := hA.lo (by omega)
  have q9 : S0 9 = S 9 := hA.lo (by omega)
  have q12 : S0 12 = S 12 := hA.lo (by omega)
  have hsp1 := hI.1.1.2.1
  have hsp := hI.1.1.2.2.1
  have hnc := hI.n14
  have hnt := hI.n4
  have hnl := hI.nle
  by_cases z1 : a1 < 0 ∨ S 7 ≤ a1
  · by_cases z2 : a2 < 0 ∨ S 8 ≤ a2
    · exact OPR.thr hR (by decide) (t_work1 sW_d (x_work1 hE (show _ ∨ S0 7 ≤ _ by rw [q7]; exact z1) (show _ ∨ S0 8 ≤ _ by rw [q8]; exact z2))) (fun w => r_work1 z1)
    · obtain ⟨y3, y4⟩ := not2 z2
      obtain ⟨u, hu, rfl⟩ := idx (b := nt) (by omega) y3 (by rw [← hI.c8]; exact y4)
      exact OPR.thr hR (by decide) (t_work1 sW_d (x_work1a hE hI0 hu (show _ ∨ S0 7 ≤ _ by rw [q7]; exact z1))) (fun w => r_work1 z1)
  obtain ⟨y1, y2⟩ := not2 z1
  obtain ⟨c, hc, rfl⟩ := idx (b := nc) (by omega) y1 (by rw [← hI.c7]; exact y2)
  by_cases z2 : a2 < 0 ∨ S 8 ≤ a2
  · exact OPR.thr hR (by decide) (t_work1 sW_d (x_work1b hE hI0 hc (show _ ∨ S0 8 ≤ _ by rw [q8]; exact z2))) (fun w => r_work1b y1 y2 z2)
  obtain ⟨y3, y4⟩ := not2 z2
  obtain ⟨u, hu, rfl⟩ := idx (b := nt) (by omega) y3 (by rw [← hI.c8]; exact y4)
  have ef : wkS S0 nt c (nI u) (S0 (125 + 8 * u + 1)) = wkS S nt c (nI u) (S (125 + 8 * u + 1)) := hA.wk hc (hA.tm hu (by omega))
  exact OPR.got (d' := (S0, S1, Sv, ks, e, tn, tx)) (g_work sW_d sW_o (by rw [← ef]; exact c_work hI0 hc hu)) (fun w => r_work hnt (by omega) hu hI.c8 (hI.2.2.1 c hc).2.1 (hI.2.2.2 u hu).2.1 y1 y2 y3 y4) (upd_self I 2 0) (rel_I hR (upd_ne _ _ (by omega)) (upd_ne _ _ (by omega)))
theorem op_journal {E : EE} (hE : E.1.stackTraces = false) {D n : Nat} {g : Nat → Int64} {w0 : Nat → Option va_E} {d : DR} {r : MR} {t : St} (hR : Rel d r t) (a1 : Int32)  : OPR E D mL_journal hL_journal mX4_journal [.int a1] d r t n g w0 := by
  obtain ⟨S0, S1, Sv, ks, e, tn, tx⟩ := d
  obtain ⟨S, Ps, A, K, N, I, hh⟩ := r
  have hOk : Ok S0 S := hR.1
  obtain ⟨sp, nc, nt, ne, m, hI, hm, hA⟩ := hOk
  have hI0 := hA.inv hI
  have he : e < 4 := hR.2.1.1
  have hks : ks ≤ 4 := hR.2.1.2.1
  have i0 : I 0 = nI ks := hR.2.1.2.2
  have htn : tn ≤ 100 := hR.2.2.1.1
  have i1 : I 1 = nI tn := hR.2.2.1.2.1
  have htx : tx = t := hR.2.2.1.2.2
  have hSv : SvR Sv e ks Ps := hR.2.2.2
  have q0 : S0 0 = S 0 := hA.lo (by omega)
  have q7 : S0 7 = S 7 := hA.lo (by omega)
  have q8 : S0 8 = S 8 := hA.lo (by omega)
  have q9 : S0 9 = S 9 := hA.lo (by omega)
  have q12 : S0 12 = S 12 := hA.lo (by omega)
  have hsp1 := hI.1.1.2.1
  have hsp := hI.1.1.2.2.1
  have hnc := hI.n14
  have hnt := hI.n4
  have hnl := hI.nle
  by_cases z1 : a1 < 0
  · exact OPR.thr hR (by decide) (t_journal1 sW_d (x_journal1 hE z1)) (fun w => r_journal1 z1)
  by_cases z2 : S 12 ≤ a1
  · exact OPR.got (d' := (S0, S1, Sv, ks, e, tn, tx)) (g_journal sW_d sW_o (c_journalN z1 (show S0 12 ≤ _ by rw [q12]; exact z2))) (fun w => r_journalN z1 z2) (upd_self I 2 0) (rel_I hR (upd_ne _ _ (by omega)) (upd_ne _ _ (by omega)))
  obtain ⟨j, hj, rfl⟩ := idx (b := ne) (by omega) z1 (by rw [← hI.c12]; exact z2)
  have ef : S0 (157 + j) = S (157 + j) := hA.jn hj
  exact OPR.got (d' := (S0, S1, Sv, ks, e, tn, tx)) (g_journal sW_d sW_o (by rw [← ef]; exact c_journalY hI0 hj)) (fun w => r_journalY (by omega) z1 z2) (upd_self I 2 0) (rel_I hR (upd_ne _ _ (by omega)) (upd_ne _ _ (by omega)))
theorem op_minuteOf {E : EE} (hE : E.1.stackTraces = false) {D n : Nat} {g : Nat → Int64} {w0 : Nat → Option va_E} {d : DR} {r : MR} {t : St} (hR : Rel d r t) (a1 : Int32)  : OPR E D mL_minuteOf hL_minuteOf mX4_minuteOf [.int a1] d r t n g w0 := by
  obtain ⟨S0, S1, Sv, ks, e, tn, tx⟩ := d
  obtain ⟨S, Ps, A, K, N, I, hh⟩ := r
  have hOk : Ok S0 S := hR.1
  obtain ⟨sp, nc, nt, ne, m, hI, hm, hA⟩ := hOk
  have hI0 := hA.inv hI
  have he : e < 4 := hR.2.1.1
  have hks : ks ≤ 4 := hR.2.1.2.1
  have i0 : I 0 = nI ks := hR.2.1.2.2
  have htn : tn ≤ 100 := hR.2.2.1.1
  have i1 : I 1 = nI tn := hR.2.2.1.2.1
  have htx : tx = t := hR.2.2.1.2.2
  have hSv : SvR Sv e ks Ps := hR.2.2.2
  have q0 : S0 0 = S 0 := hA.lo (by omega)
  have q7 : S0 7 = S 7 := hA.lo (by omega)
  have q8 : S0 8 = S 8 := hA.lo (by omega)
  have q9 : S0 9 = S 9 := hA.lo (by omega)
  have q12 : S0 12 = S 12 := hA.lo (by omega)
  have hsp1 := hI.1.1.2.1
  have hsp := hI.1.1.2.2.1
  have hnc := hI.n14
  have hnt := hI.n4
  have hnl := hI.nle
  by_cases z1 : a1 < 0 ∨ S 7 ≤ a1
  · exact OPR.thr hR (by decide) (t_minuteOf1 sW_d (x_minuteOf1 hE (show _ ∨ S0 7 ≤ _ by rw [q7]; exact z1))) (fun w => r_minuteOf1 z1)
  obtain ⟨y1, y2⟩ := not2 z1
  obtain ⟨c, hc, rfl⟩ := idx (b := nc) (by omega) y1 (by rw [← hI.c7]; exact y2)
  have qs : S0 (13 + 8 * c + 4) = S (13 + 8 * c + 4) := hA.ch hc (by omega)
  have q6 : S0 (13 + 8 * c + 6) = S (13 + 8 * c + 6) := hA.ch hc (by omega)
  by_cases z : S (13 + 8 * c + 4) = 2
  · have ef : S0 (13 + 8 * c + 6) = (runS nc nt 1000 S m).1 (13 + 8 * c + 6) := q6.trans (ke_run hc 1000 S ne m hI z).2.symm
    exact OPR.got (d' := (S0, S1, Sv, ks, e, tn, tx)) (g_minuteOf sW_d sW_o (by rw [← ef]; exact c_minuteOf2 hI0 hc (qs.trans z))) (fun w => r_minuteOf hI (by omega) hc y1 y2) (upd_self (upd I 3 (outI (runS nc nt 1000 S m))) 2 0) (rel_I hR ((upd_ne _ _ (by omega)).trans (upd_ne _ _ (by omega))) ((upd_ne _ _ (by omega)).trans (upd_ne _ _ (by omega))))
  · have ef : (fcS S1 S0 m nc nt).1 (13 + 8 * c + 6) = (runS nc nt 1000 S m).1 (13 + 8 * c + 6) := fc_at hA hI hc
    exact OPR.got (d' := (S0, (fcS S1 S0 m nc nt).1, Sv, ks, e, tn, tx)) (g_minuteOf sW_d sW_o (by rw [← ef]; exact c_minuteOf hI0 (by omega) hc (show ¬ S0 (13 + 8 * c + 4) = 2 by rw [qs]; exact z))) (fun w => r_minuteOf hI (by omega) hc y1 y2) (upd_self (upd I 3 (outI (runS nc nt 1000 S m))) 2 0) (rel_I hR ((upd_ne _ _ (by omega)).trans (upd_ne _ _ (by omega))) ((upd_ne _ _ (by omega)).trans (upd_ne _ _ (by omega))))
theorem op_chosen {E : EE} (hE : E.1.stackTraces = false) {D n : Nat} {g : Nat → Int64} {w0 : Nat → Option va_E} {d : DR} {r : MR} {t : St} (hR : Rel d r t) (a1 : Int32)  : OPR E D mL_chosen hL_chosen mX4_chosen [.int a1] d r t n g w0 := by
  obtain ⟨S0, S1, Sv, ks, e, tn, tx⟩ := d
  obtain ⟨S, Ps, A, K, N, I, hh⟩ := r
  have hOk : Ok S0 S := hR.1
  obtain ⟨sp, nc, nt, ne, m, hI, hm, hA⟩ := hOk
  have hI0 := hA.inv hI
  have he : e < 4 := hR.2.1.1
  have hks : ks ≤ 4 := hR.2.1.2.1
  have i0 : I 0 = nI ks := hR.2.1.2.2
  have htn : tn ≤ 100 := hR.2.2.1.1
  have i1 : I 1 = nI tn := hR.2.2.1.2.1
  have htx : tx = t := hR.2.2.1.2.2
  have hSv : SvR Sv e ks Ps := hR.2.2.2
  have q0 : S0 0 = S 0 := hA.lo (by omega)
  have q7 : S0 7 = S 7 := hA.lo (by omega)
  have q8 : S0 8 = S 8 := hA.lo (by omega)
  have q9 : S0 9 = S 9 := hA.lo (by omega)
  have q12 : S0 12 = S 12 := hA.lo (by omega)
  have hsp1 := hI.1.1.2.1
  have hsp := hI.1.1.2.2.1
  have hnc := hI.n14
  have hnt := hI.n4
  have hnl := hI.nle
  by_cases z1 : a1 < 0 ∨ S 0 ≤ a1
  · exact OPR.thr hR (by decide) (t_chosen1 sW_d (x_chosen1 hE (show _ ∨ S0 0 ≤ _ by rw [q0]; exact z1))) (fun w => r_chosen1 z1)
  obtain ⟨y1, y2⟩ := not2 z1
  obtain ⟨a, ha, rfl⟩ := idx (b := sp) (by omega) y1 (by rw [← hI.1.1.1]; exact y2)
  have ia : InS (nI a) := ⟨a, by omega, rfl⟩
  have ef : (chs S0 (nI a) nc).1 = (chs S (nI a) nc).1 := by rw [hA.gchs ia hI.InC nc (Nat.le_refl _)]
  exact OPR.got (d' := (S0, S1, Sv, ks, e, tn, tx)) (g_chosen sW_d sW_o (by rw [← ef]; exact c_chosen hI0 ia y1 (show ¬ S0 0 ≤ _ by rw [q0]; exact y2))) (fun w => r_chosen hI ia y1 y2) (upd_self I 2 0) (rel_I hR (upd_ne _ _ (by omega)) (upd_ne _ _ (by omega)))
theorem op_append {E : EE} (hE : E.1.stackTraces = false) {D n : Nat} {g : Nat → Int64} {w0 : Nat → Option va_E} {d : DR} {r : MR} {t : St} (hR : Rel d r t) (a1 : Int32)  : OPR E D mL_append hL_append mX4_append [.int a1] d r t n g w0 := by
  obtain ⟨S0, S1, Sv, ks, e, tn, tx⟩ := d
  obtain ⟨S, Ps, A, K, N, I, hh⟩ := r
  have hOk : Ok S0 S := hR.1
  obtain ⟨sp, nc, nt, ne, m, hI, hm, hA⟩ := hOk
  have hI0 := hA.inv hI
  have he : e < 4 := hR.2.1.1
  have hks : ks ≤ 4 := hR.2.1.2.1
  have i0 : I 0 = nI ks := hR.2.1.2.2
  have htn : tn ≤ 100 := hR.2.2.1.1
  have i1 : I 1 = nI tn := hR.2.2.1.2.1
  have htx : tx = t := hR.2.2.1.2.2
  have hSv : SvR Sv e ks Ps := hR.2.2.2
  have q0 : S0 0 = S 0 := hA.lo (by omega)
  have q7 : S0 7 = S 7 := hA.lo (by omega)
  have q8 : S0 8 = S 8 := hA.lo (by omega)
  have q9 : S0 9 = S 9 := hA.lo (by omega)
  have q12 : S0 12 = S 12 := hA.lo (by omega)
  have hsp1 := hI.1.1.2.1
  have hsp := hI.1.1.2.2.1
  have hnc := hI.n14
  have hnt := hI.n4
  have hnl := hI.nle
  by_cases z1 : a1 < 0 ∨ 127 < a1
  · exact OPR.thr hR (by decide) (t_append1 sW_d (x_append1 hE z1)) (fun w => r_append1 z1)
  obtain ⟨y1, y2⟩ := not2 z1
  by_cases z2 : tn = 100
  · subst z2
    exact OPR.thr hR (by decide) (t_append2 sW_d (x_append2 hE y1 y2)) (fun w => r_append2 y1 y2 i1)
  have hlt : tn < 100 := by omega
  have j0 : upd (upd I 1 (nI (tn + 1))) 2 0 0 = nI ks := by rw [upd_ne _ _ (by omega), upd_ne _ _ (by omega)]; exact i0
  have j1 : upd (upd I 1 (nI (tn + 1))) 2 0 1 = nI (tn + 1) := by rw [upd_ne _ _ (by omega), upd_self]
  exact OPR.got (d' := (S0, S1, Sv, ks, e, tn + 1, upd tx tn a1)) (t' := upd t tn a1) (g_append sW_d sW_o (c_append hlt y1 y2)) (fun w => r_append y1 y2 i1 hlt) (upd_self (upd I 1 (nI (tn + 1))) 2 0) ⟨hR.1, ⟨he, hks, j0⟩, ⟨by show tn + 1 ≤ 100; omega, j1, by rw [← htx]⟩, hSv⟩
theorem op_undo {E : EE} (hE : E.1.stackTraces = false) {D n : Nat} {g : Nat → Int64} {w0 : Nat → Option va_E} {d : DR} {r : MR} {t : St} (hR : Rel d r t)   : OPR E D mL_undo hL_undo mX4_undo [] d r t n g w0 := by
  obtain ⟨S0, S1, Sv, ks, e, tn, tx⟩ := d
  obtain ⟨S, Ps, A, K, N, I, hh⟩ := r
  have hOk : Ok S0 S := hR.1
  obtain ⟨sp, nc, nt, ne, m, hI, hm, hA⟩ := hOk
  have hI0 := hA.inv hI
  have he : e < 4 := hR.2.1.1
  have hks : ks ≤ 4 := hR.2.1.2.1
  have i0 : I 0 = nI ks := hR.2.1.2.2
  have htn : tn ≤ 100 := hR.2.2.1.1
  have i1 : I 1 = nI tn := hR.2.2.1.2.1
  have htx : tx = t := hR.2.2.1.2.2
  have hSv : SvR Sv e ks Ps := hR.2.2.2
  have q0 : S0 0 = S 0 := hA.lo (by omega)
  have q7 : S0 7 = S 7 := hA.lo (by omega)
  have q8 : S0 8 = S 8 := hA.lo (by omega)
  have q9 : S0 9 = S 9 := hA.lo (by omega)
  have q12 : S0 12 = S 12 := hA.lo (by omega)
  have hsp1 := hI.1.1.2.1
  have hsp := hI.1.1.2.2.1
  have hnc := hI.n14
  have hnt := hI.n4
  have hnl := hI.nle
  by_cases z1 : ks = 0
  · subst z1
    exact OPR.thr hR (by decide) (t_undo1 sW_d (x_undo1 hE rfl)) (fun w => r_undo1 i0)
  obtain ⟨p, rfl⟩ : ∃ p, ks = p + 1 := ⟨ks - 1, by omega⟩
  have hp : p < 4 := by omega
  have hk := hSv 0 (by omega)
  rw [show (e + 3 - 0) % 4 = (e + 3) % 4 from rfl, show p + 1 - 1 - 0 = p from rfl] at hk
  obtain ⟨sp2, nc2, nt2, ne2, m2, hI2, hm2, hA2⟩ := hk
  have j0 : upd (upd I 0 (nI p)) 2 0 0 = nI p := by rw [upd_ne _ _ (by omega), upd_self]
  have j1 : upd (upd I 0 (nI p)) 2 0 1 = nI tn := by rw [upd_ne _ _ (by omega), upd_ne _ _ (by omega)]; exact i1
  exact OPR.got (d' := (cpS S0 (Sv ((e + 3) % 4)) nc2 nt2, S1, Sv, p, (e + 3) % 4, tn, tx)) (g_undo sW_d sW_o (c_undo he hp (hA2.inv hI2))) (fun w => r_undo hp i0) (upd_self (upd I 0 (nI p)) 2 0) ⟨⟨sp2, nc2, nt2, ne2, m2, hI2, hm2, (cp_ag (by have := hI2.nle; have := hI2.n14; omega)).trans hA2⟩, ⟨by show (e + 3) % 4 < 4; omega, by show p ≤ 4; omega, j0⟩, ⟨htn, j1, htx⟩, svr_undo hSv he hp⟩
theorem op_tell {E : EE} {D n : Nat} {g : Nat → Int64} {w0 : Nat → Option va_E} {d : DR} {r : MR} {t : St} (hR : Rel d r t) : ∃ v, OP2 E D mX3_tell mX4_tell (.int v) d r t n g w0 := by
  obtain ⟨S0, S1, Sv, ks, e, tn, tx⟩ := d
  obtain ⟨S, Ps, A, K, N, I, hh⟩ := r
  have hOk : Ok S0 S := hR.1
  obtain ⟨sp, nc, nt, ne, m, hI, hm, hA⟩ := hOk
  have hI0 := hA.inv hI
  have he : e < 4 := hR.2.1.1
  have hks : ks ≤ 4 := hR.2.1.2.1
  have i0 : I 0 = nI ks := hR.2.1.2.2
  have htn : tn ≤ 100 := hR.2.2.1.1
  have i1 : I 1 = nI tn := hR.2.2.1.2.1
  have htx : tx = t := hR.2.2.1.2.2
  have hSv : SvR Sv e ks Ps := hR.2.2.2
  have q0 : S0 0 = S 0 := hA.lo (by omega)
  have q7 : S0 7 = S 7 := hA.lo (by omega)
  have q8 : S0 8 = S 8 := hA.lo (by omega)
  have q9 : S0 9 = S 9 := hA.lo (by omega)
  have q12 : S0 12 = S 12 := hA.lo (by omega)
  have hsp1 := hI.1.1.2.1
  have hsp := hI.1.1.2.2.1
  have hnc := hI.n14
  have hnt := hI.n4
  have hnl := hI.nle
  obtain ⟨ta, tc⟩ := tell_ag (T := (fcS S1 S0 m nc nt).1) (T' := (runS nc nt 1000 S m).1) hA hI (fun c hc => fc_at hA hI hc) nc (Nat.le_refl _)
  have k0 : upd (upd (upd I 3 (outI (runS nc nt 1000 S m))) 0 (nI (min 4 (ks + 1)))) 2 0 0 = nI (min 4 (ks + 1)) := by rw [upd_ne _ _ (by omega), upd_self]
  have k1 : upd (upd (upd I 3 (outI (runS nc nt 1000 S m))) 0 (nI (min 4 (ks + 1)))) 2 0 1 = I 1 := by rw [upd_ne _ _ (by omega), upd_ne _ _ (by omega), upd_ne _ _ (by omega)]
  refine ⟨tellC S (runS nc nt 1000 S m).1 nc, OP2.of (d' := (tellS S0 (fcS S1 S0 m nc nt).1 nc, (fcS S1 S0 m nc nt).1, va_up Sv e (cpS (Sv e) S0 nc nt), min 4 (ks + 1), (e + 1) % 4, tn, tx)) (by rw [← tc]; exact k_tell he hks hI0 (by omega)) (fun w => r_tell hI (by omega) hks i0) (rel_end hR hI hm hA ⟨sp, nc, nt, ne, m, inv_tell hI nc (Nat.le_refl _), hm, ta⟩ k0 k1)⟩
theorem op_minutesToAll {E : EE} {D n : Nat} {g : Nat → Int64} {w0 : Nat → Option va_E} {d : DR} {r : MR} {t : St} (hR : Rel d r t) : ∃ v, OP2 E D mX3_minutesToAll mX4_minutesToAll (.int v) d r t n g w0 := by
  obtain ⟨S0, S1, Sv, ks, e, tn, tx⟩ := d
  obtain ⟨S, Ps, A, K, N, I, hh⟩ := r
  have hOk : Ok S0 S := hR.1
  obtain ⟨sp, nc, nt, ne, m, hI, hm, hA⟩ := hOk
  have hI0 := hA.inv hI
  have he : e < 4 := hR.2.1.1
  have hks : ks ≤ 4 := hR.2.1.2.1
  have i0 : I 0 = nI ks := hR.2.1.2.2
  have htn : tn ≤ 100 := hR.2.2.1.1
  have i1 : I 1 = nI tn := hR.2.2.1.2.1
  have htx : tx = t := hR.2.2.1.2.2
  have hSv : SvR Sv e ks Ps := hR.2.2.2
  have q0 : S0 0 = S 0 := hA.lo (by omega)
  have q7 : S0 7 = S 7 := hA.lo (by omega)
  have q8 : S0 8 = S 8 := hA.lo (by omega)
  have q9 : S0 9 = S 9 := hA.lo (by omega)
  have q12 : S0 12 = S 12 := hA.lo (by omega)
  have hsp1 := hI.1.1.2.1
  have hsp := hI.1.1.2.2.1
  have hnc := hI.n14
  have hnt := hI.n4
  have hnl := hI.nle
  have ef := fc_out (S1 := S1) hA hI
  refine ⟨outI (runS nc nt 1000 S m), OP2.of (d' := (S0, (fcS S1 S0 m nc nt).1, Sv, ks, e, tn, tx)) (by rw [← ef]; exact k_minutesToAll hI0 (by omega)) (fun w => r_minutesToAll hI (by omega)) (rel_I hR ((upd_ne _ _ (by omega)).trans (upd_ne _ _ (by omega))) ((upd_ne _ _ (by omega)).trans (upd_ne _ _ (by omega))))⟩
theorem op_bestSpan {E : EE} {D n : Nat} {g : Nat → Int64} {w0 : Nat → Option va_E} {d : DR} {r : MR} {t : St} (hR : Rel d r t) : ∃ v, OP2 E D mX3_bestSpan mX4_bestSpan (.int v) d r t n g w0 := by
  obtain ⟨S0, S1, Sv, ks, e, tn, tx⟩ := d
  obtain ⟨S, Ps, A, K, N, I, hh⟩ := r
  have hOk : Ok S0 S := hR.1
  obtain ⟨sp, nc, nt, ne, m, hI, hm, hA⟩ := hOk
  have hI0 := hA.inv hI
  have he : e < 4 := hR.2.1.1
  have hks : ks ≤ 4 := hR.2.1.2.1
  have i0 : I 0 = nI ks := hR.2.1.2.2
  have htn : tn ≤ 100 := hR.2.2.1.1
  have i1 : I 1 = nI tn := hR.2.2.1.2.1
  have htx : tx = t := hR.2.2.1.2.2
  have hSv : SvR Sv e ks Ps := hR.2.2.2
  have q0 : S0 0 = S 0 := hA.lo (by omega)
  have q7 : S0 7 = S 7 := hA.lo (by omega)
  have q8 : S0 8 = S 8 := hA.lo (by omega)
  have q9 : S0 9 = S 9 := hA.lo (by omega)
  have q12 : S0 12 = S 12 := hA.lo (by omega)
  have hsp1 := hI.1.1.2.1
  have hsp := hI.1.1.2.2.1
  have hnc := hI.n14
  have hnt := hI.n4
  have hnl := hI.nle
  by_cases h4 : nt = 4
  · exact ⟨-1, OP2.of (d' := (S0, S1, Sv, ks, e, tn, tx)) (k_best4 hI0 h4) (fun w => r_bestSpan4 hI h4) (rel_I hR (upd_ne _ _ (by omega)) (upd_ne _ _ (by omega)))⟩
  have h4' : nt < 4 := by omega
  have ef := (best_eq (S1 := S1) (K := K) (N := N) (I := I) hA hI h4' sp (Nat.le_refl _)).1
  have bI : ∀ i, i ≠ 3 → ∀ k, (bM S K N I m nc nt k).2.2.2.2 i = I i := by
    intro i hi k
    induction k with
    | zero => rfl
    | succ k ih =>
      show upd (bM S K N I m nc nt k).2.2.2.2 3 _ i = I i
      rw [upd_ne _ _ hi]; exact ih
  have k0 : upd (bM S K N I m nc nt sp).2.2.2.2 2 0 0 = I 0 := by rw [upd_ne _ _ (by omega)]; exact bI 0 (by omega) sp
  have k1 : upd (bM S K N I m nc nt sp).2.2.2.2 2 0 1 = I 1 := by rw [upd_ne _ _ (by omega)]; exact bI 1 (by omega) sp
  refine ⟨(bM S K N I m nc nt sp).1.1, OP2.of (d' := (S0, (bs S1 S0 m nc nt sp).2.2, Sv, ks, e, tn, tx)) (by rw [← ef]; exact k_best hI0 (by omega) h4') (fun w => r_bestSpan hI (by omega) h4') ⟨⟨sp, nc, nt, ne, m, inv_bM hI h4' sp (Nat.le_refl _), hm, hA.trans (bm_ag hI h4' sp).symm⟩, ⟨he, hks, k0.trans i0⟩, ⟨htn, k1.trans i1, htx⟩, hSv⟩⟩
theorem op_clearText {E : EE} {D n : Nat} {g : Nat → Int64} {w0 : Nat → Option va_E} {d : DR} {r : MR} {t : St} (hR : Rel d r t) : ∃ v, OP2 E D mX3_clearText mX4_clearText (.int v) d r t n g w0 := by
  obtain ⟨S0, S1, Sv, ks, e, tn, tx⟩ := d
  obtain ⟨S, Ps, A, K, N, I, hh⟩ := r
  have hOk : Ok S0 S := hR.1
  obtain ⟨sp, nc, nt, ne, m, hI, hm, hA⟩ := hOk
  have hI0 := hA.inv hI
  have he : e < 4 := hR.2.1.1
  have hks : ks ≤ 4 := hR.2.1.2.1
  have i0 : I 0 = nI ks := hR.2.1.2.2
  have htn : tn ≤ 100 := hR.2.2.1.1
  have i1 : I 1 = nI tn := hR.2.2.1.2.1
  have htx : tx = t := hR.2.2.1.2.2
  have hSv : SvR Sv e ks Ps := hR.2.2.2
  have q0 : S0 0 = S 0 := hA.lo (by omega)
  have q7 : S0 7 = S 7 := hA.lo (by omega)
  have q8 : S0 8 = S 8 := hA.lo (by omega)
  have q9 : S0 9 = S 9 := hA.lo (by omega)
  have q12 : S0 12 = S 12 := hA.lo (by omega)
  have hsp1 := hI.1.1.2.1
  have hsp := hI.1.1.2.2.1
  have hnc := hI.n14
  have hnt := hI.n4
  have hnl := hI.nle
  have k0 : upd (upd I 1 0) 2 0 0 = I 0 := by rw [upd_ne _ _ (by omega), upd_ne _ _ (by omega)]
  have k1 : upd (upd I 1 0) 2 0 1 = nI 0 := by rw [upd_ne _ _ (by omega), upd_self]; rfl
  refine ⟨I 1, OP2.of (d' := (S0, S1, Sv, ks, e, 0, tx)) (by rw [i1]; exact k_clearText) (fun w => r_clearText) ⟨hR.1, ⟨he, hks, k0.trans i0⟩, ⟨by show 0 ≤ 100; omega, k1, htx⟩, hSv⟩⟩
theorem op_parse {E : EE} {D n : Nat} {g : Nat → Int64} {w0 : Nat → Option va_E} {d : DR} {r : MR} {t : St} (hR : Rel d r t) : ∃ v, OP2 E D mX3_parse mX4_parse (.int v) d r t n g w0 := by
  obtain ⟨S0, S1, Sv, ks, e, tn, tx⟩ := d
  obtain ⟨S, Ps, A, K, N, I, hh⟩ := r
  have hOk : Ok S0 S := hR.1
  obtain ⟨sp, nc, nt, ne, m, hI, hm, hA⟩ := hOk
  have hI0 := hA.inv hI
  have he : e < 4 := hR.2.1.1
  have hks : ks ≤ 4 := hR.2.1.2.1
  have i0 : I 0 = nI ks := hR.2.1.2.2
  have htn : tn ≤ 100 := hR.2.2.1.1
  have i1 : I 1 = nI tn := hR.2.2.1.2.1
  have htx : tx = t := hR.2.2.1.2.2
  have hSv : SvR Sv e ks Ps := hR.2.2.2
  have q0 : S0 0 = S 0 := hA.lo (by omega)
  have q7 : S0 7 = S 7 := hA.lo (by omega)
  have q8 : S0 8 = S 8 := hA.lo (by omega)
  have q9 : S0 9 = S 9 := hA.lo (by omega)
  have q12 : S0 12 = S 12 := hA.lo (by omega)
  have hsp1 := hI.1.1.2.1
  have hsp := hI.1.1.2.2.1
  have hnc := hI.n14
  have hnt := hI.n4
  have hnl := hI.nle
  subst htx
  obtain ⟨p1, p2⟩ := parse_eq (T := tx) (S1 := S1) htn
  obtain ⟨⟨c, p, Z⟩, hrl⟩ : ∃ z, rl tx tn (tn + 1) 0 0 z0 = z := ⟨_, rfl⟩
  rw [hrl] at p1 p2
  by_cases hc : c = 0
  · subst hc
    obtain ⟨u1, u2⟩ := p1 rfl
    have u1 : (rtF tx tn S1).1 = nI p := u1
    have u2 : p ≤ tn := u2
    have k0 : upd (upd I 4 (nI p)) 2 0 0 = I 0 := by rw [upd_ne _ _ (by omega), upd_ne _ _ (by omega)]
    have k1 : upd (upd I 4 (nI p)) 2 0 1 = I 1 := by rw [upd_ne _ _ (by omega), upd_ne _ _ (by omega)]
    exact ⟨-10 - nI p, OP2.of (d' := (S0, (rtF tx tn S1).2, Sv, ks, e, tn, tx)) (by rw [← u1]; exact k_parseNo he hks htn hI0 (by rw [u1]; exact nI_ne_m1 (by omega))) (fun w => r_parseNo i1 htn hrl) (rel_I hR k0 k1)⟩
  · obtain ⟨u1, u2, sp2, nc2, hI2, hA2⟩ := p2 hc
    have u1 : c = 1 := u1
    subst u1
    have hI2r : Inv Z sp2 nc2 0 0 0 := hA2.symm.inv hI2
    have ez : Z 7 = nI nc2 := hI2r.c7
    have k0 : upd (upd (upd I 4 (nI p)) 0 (nI (min 4 (ks + 1)))) 2 0 0 = nI (min 4 (ks + 1)) := by rw [upd_ne _ _ (by omega), upd_self]
    have k1 : upd (upd (upd I 4 (nI p)) 0 (nI (min 4 (ks + 1)))) 2 0 1 = I 1 := by rw [upd_ne _ _ (by omega), upd_ne _ _ (by omega), upd_ne _ _ (by omega)]
    exact ⟨Z 7, OP2.of (d' := (cpS S0 (rtF tx tn S1).2 nc2 0, (rtF tx tn S1).2, va_up Sv e (cpS (Sv e) S0 nc nt), min 4 (ks + 1), (e + 1) % 4, tn, tx)) (by rw [ez]; exact k_parseYes he hks htn hI0 u2 hI2) (fun w => r_parseYes i1 htn hrl hks i0) (rel_end hR hI hm hA ⟨sp2, nc2, 0, 0, 0, hI2r, by omega, (cp_ag (by omega)).trans hA2⟩ k0 k1)⟩
theorem op_meanCold {E : EE} {D n : Nat} {g : Nat → Int64} {w0 : Nat → Option va_E} {d : DR} {r : MR} {t : St} (hR : Rel d r t) : ∃ v, OP2 E D mX3_meanCold mX4_meanCold (.double v) d r t n g w0 := by
  obtain ⟨S0, S1, Sv, ks, e, tn, tx⟩ := d
  obtain ⟨S, Ps, A, K, N, I, hh⟩ := r
  have hOk : Ok S0 S := hR.1
  obtain ⟨sp, nc, nt, ne, m, hI, hm, hA⟩ := hOk
  have hI0 := hA.inv hI
  have he : e < 4 := hR.2.1.1
  have hks : ks ≤ 4 := hR.2.1.2.1
  have i0 : I 0 = nI ks := hR.2.1.2.2
  have htn : tn ≤ 100 := hR.2.2.1.1
  have i1 : I 1 = nI tn := hR.2.2.1.2.1
  have htx : tx = t := hR.2.2.1.2.2
  have hSv : SvR Sv e ks Ps := hR.2.2.2
  have q0 : S0 0 = S 0 := hA.lo (by omega)
  have q7 : S0 7 = S 7 := hA.lo (by omega)
  have q8 : S0 8 = S 8 := hA.lo (by omega)
  have q9 : S0 9 = S 9 := hA.lo (by omega)
  have q12 : S0 12 = S 12 := hA.lo (by omega)
  have hsp1 := hI.1.1.2.1
  have hsp := hI.1.1.2.2.1
  have hnc := hI.n14
  have hnt := hI.n4
  have hnl := hI.nle
  have ef : mcR S0 nc = mcR S nc := by unfold mcR; rw [hA.mcS nc (Nat.le_refl _), hA.mcN nc (Nat.le_refl _)]
  exact ⟨mcR S nc, OP2.of (d' := (S0, S1, Sv, ks, e, tn, tx)) (by rw [← ef]; exact k_meanCold hI0 (mean_ok hI0)) (fun w => r_meanCold hI (mean_ok hI)) (rel_I hR (upd_ne _ _ (by omega)) (upd_ne _ _ (by omega)))⟩
theorem op_digest {E : EE} {D n : Nat} {g : Nat → Int64} {w0 : Nat → Option va_E} {d : DR} {r : MR} {t : St} (hR : Rel d r t) : ∃ v, OP2 E D mX3_digest mX4_digest (.long v) d r t n g w0 := by
  obtain ⟨S0, S1, Sv, ks, e, tn, tx⟩ := d
  obtain ⟨S, Ps, A, K, N, I, hh⟩ := r
  have hOk : Ok S0 S := hR.1
  obtain ⟨sp, nc, nt, ne, m, hI, hm, hA⟩ := hOk
  have hI0 := hA.inv hI
  have he : e < 4 := hR.2.1.1
  have hks : ks ≤ 4 := hR.2.1.2.1
  have i0 : I 0 = nI ks := hR.2.1.2.2
  have htn : tn ≤ 100 := hR.2.2.1.1
  have i1 : I 1 = nI tn := hR.2.2.1.2.1
  have htx : tx = t := hR.2.2.1.2.2
  have hSv : SvR Sv e ks Ps := hR.2.2.2
  have q0 : S0 0 = S 0 := hA.lo (by omega)
  have q7 : S0 7 = S 7 := hA.lo (by omega)
  have q8 : S0 8 = S 8 := hA.lo (by omega)
  have q9 : S0 9 = S 9 := hA.lo (by omega)
  have q12 : S0 12 = S 12 := hA.lo (by omega)
  have hsp1 := hI.1.1.2.1
  have hsp := hI.1.1.2.2.1
  have hnc := hI.n14
  have hnt := hI.n4
  have hnl := hI.nle
  have ef : dgL S0 (fcS S1 S0 m nc nt).1 sp nc nt ne (nI tn) (outI (fcS S1 S0 m nc nt)) (nI ks) = dgL S (runS nc nt 1000 S m).1 sp nc nt ne (I 1) (outI (runS nc nt 1000 S m)) (I 0) := by
    rw [fc_out (S1 := S1) hA hI, i0, i1]
    exact hA.dg hsp (fun c hc => fc_at hA hI hc) _ _ _
  have k0 : upd (upd I 2 0) 3 (outI (runS nc nt 1000 S m)) 0 = I 0 := by rw [upd_ne _ _ (by omega), upd_ne _ _ (by omega)]
  have k1 : upd (upd I 2 0) 3 (outI (runS nc nt 1000 S m)) 1 = I 1 := by rw [upd_ne _ _ (by omega), upd_ne _ _ (by omega)]
  exact ⟨_, OP2.of (d' := (S0, (fcS S1 S0 m nc nt).1, Sv, ks, e, tn, tx)) (by rw [← ef]; exact k_digest hI0 (by omega)) (fun w => r_digest hI (by omega)) (rel_I hR k0 k1)⟩
