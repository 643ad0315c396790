/-! THE REFERENCE'S OTHER PIECES -/
theorem k_inY {E : EE} {w : Wo} {v a b : Int32} (h1 : ¬ v < a) (h2 : ¬ b < v) : Cd E mX4_in w [.int v, .int a, .int b] (some (.int 1)) w := by
  have h := k_in (E := E) (w := w) v a b
  rw [if_neg h1, if_neg h2] at h
  exact h
theorem k_inN {E : EE} {w : Wo} {v a b : Int32} (h1 : v < a ∨ b < v) : Cd E mX4_in w [.int v, .int a, .int b] (some (.int 0)) w := by
  have h := k_in (E := E) (w := w) v a b
  by_cases q : v < a
  · rw [if_pos q] at h; exact h
  · rw [if_neg q, if_pos (h1.resolve_left q)] at h; exact h
theorem k_isSpanY {E : EE} {D : Nat} {S : St} {Ps : Nat → St} {A K T N I : St} {hh : Int64} {w : Wo} {i : Int32} (h1 : ¬ i < 0) (h2 : ¬ S 0 ≤ i) : Cd E mX4_isSpan (ml E D S Ps A K T N I hh w) [.ref D, .int i] (some (.int 1)) (ml E D S Ps A K T N I hh w) := by
  have h := k_isSpan (E := E) (D := D) (S := S) (Ps := Ps) (A := A) (K := K) (T := T) (N := N) (I := I) (hh := hh) (w := w) i
  rw [if_neg h1, if_neg h2] at h
  exact h
theorem k_isSpanN {E : EE} {D : Nat} {S : St} {Ps : Nat → St} {A K T N I : St} {hh : Int64} {w : Wo} {i : Int32} (h1 : i < 0 ∨ S 0 ≤ i) : Cd E mX4_isSpan (ml E D S Ps A K T N I hh w) [.ref D, .int i] (some (.int 0)) (ml E D S Ps A K T N I hh w) := by
  have h := k_isSpan (E := E) (D := D) (S := S) (Ps := Ps) (A := A) (K := K) (T := T) (N := N) (I := I) (hh := hh) (w := w) i
  by_cases q : i < 0
  · rw [if_pos q] at h; exact h
  · rw [if_neg q, if_pos (h1.resolve_left q)] at h; exact h
theorem k_isChairY {E : EE} {D : Nat} {S : St} {Ps : Nat → St} {A K T N I : St} {hh : Int64} {w : Wo} {i : Int32} (h1 : ¬ i < 0) (h2 : ¬ S 7 ≤ i) : Cd E mX4_isChair (ml E D S Ps A K T N I hh w) [.ref D, .int i] (some (.int 1)) (ml E D S Ps A K T N I hh w) := by
  have h := k_isChair (E := E) (D := D) (S := S) (Ps := Ps) (A := A) (K := K) (T := T) (N := N) (I := I) (hh := hh) (w := w) i
  rw [if_neg h1, if_neg h2] at h
  exact h
theorem k_isChairN {E : EE} {D : Nat} {S : St} {Ps : Nat → St} {A K T N I : St} {hh : Int64} {w : Wo} {i : Int32} (h1 : i < 0 ∨ S 7 ≤ i) : Cd E mX4_isChair (ml E D S Ps A K T N I hh w) [.ref D, .int i] (some (.int 0)) (ml E D S Ps A K T N I hh w) := by
  have h := k_isChair (E := E) (D := D) (S := S) (Ps := Ps) (A := A) (K := K) (T := T) (N := N) (I := I) (hh := hh) (w := w) i
  by_cases q : i < 0
  · rw [if_pos q] at h; exact h
  · rw [if_neg q, if_pos (h1.resolve_left q)] at h; exact h
theorem k_isTeamY {E : EE} {D : Nat} {S : St} {Ps : Nat → St} {A K T N I : St} {hh : Int64} {w : Wo} {i : Int32} (h1 : ¬ i < 0) (h2 : ¬ S 8 ≤ i) : Cd E mX4_isTeam (ml E D S Ps A K T N I hh w) [.ref D, .int i] (some (.int 1)) (ml E D S Ps A K T N I hh w) := by
  have h := k_isTeam (E := E) (D := D) (S := S) (Ps := Ps) (A := A) (K := K) (T := T) (N := N) (I := I) (hh := hh) (w := w) i
  rw [if_neg h1, if_neg h2] at h
  exact h
theorem k_isTeamN {E : EE} {D : Nat} {S : St} {Ps : Nat → St} {A K T N I : St} {hh : Int64} {w : Wo} {i : Int32} (h1 : i < 0 ∨ S 8 ≤ i) : Cd E mX4_isTeam (ml E D S Ps A K T N I hh w) [.ref D, .int i] (some (.int 0)) (ml E D S Ps A K T N I hh w) := by
  have h := k_isTeam (E := E) (D := D) (S := S) (Ps := Ps) (A := A) (K := K) (T := T) (N := N) (I := I) (hh := hh) (w := w) i
  by_cases q : i < 0
  · rw [if_pos q] at h; exact h
  · rw [if_neg q, if_pos (h1.resolve_left q)] at h; exact h
theorem ml_psE {E : EE} {D : Nat} {S : St} {Ps Ps' : Nat → St} {A K T N I : St} {hh : Int64} {w : Wo} (h : ∀ p, p < 4 → ∀ j, j < 171 → Ps p j = Ps' p j) : ml E D S Ps A K T N I hh w = ml E D S Ps' A K T N I hh w := by
  have e : gd 684 (psF Ps) = gd 684 (psF Ps') := gd_eq (fun i hi => h _ (by omega) _ (by omega))
  refine Prod.ext rfl (funext fun a => ?_)
  show (if D ≤ a ∧ a < D + 7 then some (mlC E D S Ps A K T N I hh (a - D)) else w.2 a) = if D ≤ a ∧ a < D + 7 then some (mlC E D S Ps' A K T N I hh (a - D)) else w.2 a
  unfold mlC
  rw [e]
def shB (k p j : Nat) : Bool := decide (171 * p + j < k) && decide (j < 171)
def shP (Ps : Nat → St) (k : Nat) : Nat → St := fun p j => if shB k p j = true then Ps (p + 1) j else Ps p j
theorem shP_s {Ps : Nat → St} {k : Nat} : va_up (shP Ps k) (k / 171) (upd (shP Ps k (k / 171)) (k % 171) (shP Ps k (k / 171 + 1) (k % 171))) = shP Ps (k + 1) := by
  have h1 : shP Ps k (k / 171 + 1) (k % 171) = Ps (k / 171 + 1) (k % 171) := by
    unfold shP
    rw [if_neg (by unfold shB; rw [Bool.and_eq_true, decide_eq_true_eq, decide_eq_true_eq]; omega)]
  rw [h1]
  funext p j
  unfold va_up
  by_cases e : p = k / 171
  · rw [if_pos e]
    unfold upd
    by_cases e2 : j = k % 171
    · rw [if_pos e2]
      unfold shP
      rw [if_pos (by unfold shB; rw [Bool.and_eq_true, decide_eq_true_eq, decide_eq_true_eq]; omega), e, e2]
    · rw [if_neg e2, ← e]
      unfold shP
      rw [show shB k p j = shB (k + 1) p j by unfold shB; rw [Bool.eq_iff_iff, Bool.and_eq_true, Bool.and_eq_true, decide_eq_true_eq, decide_eq_true_eq, decide_eq_true_eq]; omega]
  · rw [if_neg e]
    unfold shP
    rw [show shB k p j = shB (k + 1) p j by unfold shB; rw [Bool.eq_iff_iff, Bool.and_eq_true, Bool.and_eq_true, decide_eq_true_eq, decide_eq_true_eq, decide_eq_true_eq]; omega]
theorem shP_0 {Ps : Nat → St} : shP Ps 0 = Ps := by
  funext p j
  unfold shP
  rw [if_neg (by unfold shB; rw [Bool.and_eq_true, decide_eq_true_eq, decide_eq_true_eq]; omega)]
/-- the saved states with one more -/
def psh (Ps : Nat → St) (A : St) (ks : Nat) : Nat → St := if ks = 4 then (fun p => if p < 3 then Ps (p + 1) else A) else va_up Ps ks A
def cpP (Ps : Nat → St) (A : St) (q k : Nat) : Nat → St := va_up Ps q (cpA (Ps q) A k)
theorem cpP_s {Ps : Nat → St} {A : St} {q k : Nat} : va_up (cpP Ps A q k) q (upd (cpP Ps A q k q) k (A k)) = cpP Ps A q (k + 1) := by
  have e : cpP Ps A q k q = cpA (Ps q) A k := if_pos rfl
  rw [e, cpA_s]
  funext p
  unfold cpP va_up
  by_cases h : p = q
  · rw [if_pos h, if_pos h]
  · rw [if_neg h, if_neg h, if_neg h]
theorem cpP_0 {Ps : Nat → St} {A : St} {q : Nat} : cpP Ps A q 0 = Ps := by
  funext p
  unfold cpP va_up
  by_cases h : p = q
  · rw [if_pos h, h]; rfl
  · rw [if_neg h]
theorem v_istPi {E : EE} {Γ : Cx} {M : MI} {own : String} {k n : Nat} {L : Lo} {st : List Value} {w : Wo} {D : Nat} {S : St} {Ps : Nat → St} {A K T N I : St} {hh : Int64} (h : OkB E Γ M own) (pc q : Nat) (i : Nat) {x : Int32} (hd : decode (mC M) pc = .ok (.iastore, 1)) (hq : pc + 1 = q) (hi : i < 684) (kk : V E Γ k n q L st (ml E D S (va_up Ps (i / 171) (upd (Ps (i / 171)) (i % 171) x)) A K T N I hh w)) : V E Γ k n pc L (.int x :: .int (nI i) :: .ref (D + 2) :: st) (ml E D S Ps A K T N I hh w) := by
  have e : i = 171 * (i / 171) + i % 171 := by omega
  rw [show (Value.int (nI i)) = Value.int (nI (171 * (i / 171) + i % 171)) by rw [← e]]
  exact v_istPm h pc q (i / 171) (i % 171) hd hq (by omega) (by omega) kk
theorem pred4 : nI 4 - 1 = nI 3 := by decide
set_option maxRecDepth 100000 in
set_option maxHeartbeats 4000000 in
theorem k_ends {E : EE} {D : Nat} {S : St} {Ps : Nat → St} {A K T N I : St} {hh : Int64} {w : Wo} {ks : Nat} (hks : ks ≤ 4) (e0 : I 0 = nI ks) (x : Int32) : Cd E mX4_ends (ml E D S Ps A K T N I hh w) [.ref D, .int x] (some (.int x)) (ml E D S (psh Ps A ks) A K T N (upd (upd I 0 (nI (min 4 (ks + 1)))) 2 0) hh w) := by
  refine Cd.of RX4 rfl (by decide) [some (.ref D), some (.int x), none] (Nat.le_of_ble_eq_true rfl) rfl (fun Γ h f hmn => ?_)
  have k49 : ∀ (Q : Nat → St) (q : Nat) (i2 : Option Value), q < 4 → (∀ p, p < 4 → ∀ j, j < 171 → cpP Q A q 171 p j = psh Ps A ks p j) → q + 1 = min 4 (ks + 1) → V E Γ 0 0 49 [some (.ref D), some (.int x), i2] [] (ml E D S Q A K T N (upd I 0 (nI q)) hh w) := by
    intro Q q i2 hq hP hk
    refine v_iconst (v := 0) h 49 50 dX4_ends_49 rfl (by decide) ?_
    refine v_istore_n (i := 2) h 50 51 dX4_ends_50 rfl rfl (by decide) (so2 rfl) ?_
    have loop51 : ∀ d j, j + d = 171 → V E Γ 0 0 51 [some (.ref D), some (.int x), some (.int (nI j))] [] (ml E D S (cpP Q A q j) A K T N (upd I 0 (nI q)) hh w) := by
      intro d
      induction d with
      | zero =>
        intro j hj
        obtain rfl : 171 = j := by omega
        refine v_iload_n (i := 2) h 51 52 dX4_ends_51 rfl rfl ld2 ?_
        refine v_sipush (v := nI 171) h 52 55 dX4_ends_52 rfl (by decide) ?_
        refine v_icmp_ge h 55 58 85 dX4_ends_55 rfl (by decide) (fun h55 => ?_) (fun h55 => absurd (nI_le (Nat.le_refl _) (by decide)) h55)
        refine v_aload_n (i := 0) h 85 86 dX4_ends_85 rfl rfl ld0 ?_
        refine v_dup h 86 87 dX4_ends_86 rfl rfl ?_
        refine v_get h 87 90 dX4_ends_87 rfl fo_X4_36 ml_ob rfl ?_
        rw [upd_self]
        refine v_iconst (v := 1) h 90 91 dX4_ends_90 rfl (by decide) ?_
        refine v_iadd h 91 92 dX4_ends_91 rfl ?_
        rw [nI_1]
        refine v_putM4 h 92 95 dX4_ends_92 rfl fw_X4_36 ?_
        rw [upd_upd, hk]
        refine v_aload_n (i := 0) h 95 96 dX4_ends_95 rfl rfl ld0 ?_
        refine v_iload_n (i := 1) h 96 97 dX4_ends_96 rfl rfl ld1 ?_
        refine v_callV1 h 97 100 dX4_ends_97 rfl cb_X4_tells cv_X4_tells ml_ob lk_X4_39 (rok (by decide) (by decide)) ⟨rfl, rfl⟩ ⟨Nat.zero_le _, Nat.zero_le _⟩ (k_tells _) rfl rfl (Nat.le_of_ble_eq_true rfl) ?_
        refine v_iret h 100 f dX4_ends_100 rfl (Nat.zero_le _) (Nat.zero_le _) ?_ ?_
        · rfl
        · rw [ml_psE hP]
      | succ d ih =>
        intro j hj
        refine v_iload_n (i := 2) h 51 52 dX4_ends_51 rfl rfl ld2 ?_
        refine v_sipush (v := nI 171) h 52 55 dX4_ends_52 rfl (by decide) ?_
        refine v_icmp_ge h 55 58 85 dX4_ends_55 rfl (by decide) (fun h55 => absurd h55 (nI_ge (by omega) (by decide))) (fun h55 => ?_)
        refine v_aload_n (i := 0) h 58 59 dX4_ends_58 rfl rfl ld0 ?_
        refine v_get h 59 62 dX4_ends_59 rfl fo_X4_13 ml_ob rfl ?_
        refine v_sipush (v := nI 171) h 62 65 dX4_ends_62 rfl (by decide) ?_
        refine v_aload_n (i := 0) h 65 66 dX4_ends_65 rfl rfl ld0 ?_
        refine v_get h 66 69 dX4_ends_66 rfl fo_X4_36 ml_ob rfl ?_
        rw [upd_self]
        refine v_imul h 69 70 dX4_ends_69 rfl ?_
        refine v_iload_n (i := 2) h 70 71 dX4_ends_70 rfl rfl ld2 ?_
        rw [pk_mul]
        refine v_iadd h 71 72 dX4_ends_71 rfl ?_
        rw [nI_add]
        refine v_aload_n (i := 0) h 72 73 dX4_ends_72 rfl rfl ld0 ?_
        refine v_get h 73 76 dX4_ends_73 rfl fo_X4_16 ml_ob rfl ?_
        refine v_iload_n (i := 2) h 76 77 dX4_ends_76 rfl rfl ld2 ?_
        refine v_ildAm h 77 78 _ dX4_ends_77 rfl (by omega) ?_
        refine v_istPm h 78 79 q j dX4_ends_78 rfl (by omega) (by omega) ?_
        refine v_iinc (i := 2) h 79 82 dX4_ends_79 rfl ld2 (by first | exact iinc1 _ | rfl) (by decide) (so2 rfl) ?_
        refine v_goto h 82 51 dX4_ends_82 (by decide) ?_
        refine V.world (w' := ml E D S (cpP Q A q (j + 1)) A K T N (upd I 0 (nI q)) hh w) (by rw [← cpP_s]) (V.weakT (ih (j + 1) (by omega)) (And.intro rfl (And.intro rfl (And.intro rfl trivial))))
    refine V.world (w' := ml E D S (cpP Q A q 0) A K T N (upd I 0 (nI q)) hh w) (by rw [cpP_0]) (V.weakT (loop51 171 0 (by omega)) (And.intro rfl (And.intro rfl (And.intro rfl trivial))))
  refine v_aload_n (i := 0) h 0 1 dX4_ends_0 rfl rfl ld0 ?_
  refine v_get h 1 4 dX4_ends_1 rfl fo_X4_36 ml_ob rfl ?_
  refine v_iconst (v := 4) h 4 5 dX4_ends_4 rfl (by decide) ?_
  refine v_icmp_ne h 5 8 49 dX4_ends_5 rfl (by decide) (fun h5 => ?_) (fun h5 => ?_)
  · have hlt : ks < 4 := by
      rcases Nat.lt_or_ge ks 4 with q | q
      · exact q
      · exact absurd (by rw [e0, show ks = 4 by omega]; rfl) h5
    refine V.world (w' := ml E D S Ps A K T N (upd I 0 (nI ks)) hh w) (by rw [upd_is e0]) ?_
    exact k49 _ ks _ hlt (fun p hp j hj => by
      rw [show psh Ps A ks = va_up Ps ks A from if_neg (by omega)]
      unfold cpP va_up
      by_cases e : p = ks
      · rw [if_pos e, if_pos e]
        exact if_pos hj
      · rw [if_neg e, if_neg e]) (by omega)
  · refine v_iconst (v := 0) h 8 9 dX4_ends_8 rfl (by decide) ?_
    refine v_istore_n (i := 2) h 9 10 dX4_ends_9 rfl rfl (by decide) (so2 rfl) ?_
    have loop10 : ∀ d j, j + d = 513 → V E Γ 0 0 10 [some (.ref D), some (.int x), some (.int (nI j))] [] (ml E D S (shP Ps j) A K T N I hh w) := by
      intro d
      induction d with
      | zero =>
        intro j hj
        obtain rfl : 513 = j := by omega
        refine v_iload_n (i := 2) h 10 11 dX4_ends_10 rfl rfl ld2 ?_
        refine v_sipush (v := nI 513) h 11 14 dX4_ends_11 rfl (by decide) ?_
        refine v_icmp_ge h 14 17 39 dX4_ends_14 rfl (by decide) (fun h14 => ?_) (fun h14 => absurd (nI_le (Nat.le_refl _) (by decide)) h14)
        refine v_aload_n (i := 0) h 39 40 dX4_ends_39 rfl rfl ld0 ?_
        refine v_dup h 40 41 dX4_ends_40 rfl rfl ?_
        refine v_get h 41 44 dX4_ends_41 rfl fo_X4_36 ml_ob rfl ?_
        rw [show I 0 = nI 4 from h5]
        refine v_iconst (v := 1) h 44 45 dX4_ends_44 rfl (by decide) ?_
        refine v_isub h 45 46 dX4_ends_45 rfl ?_
        refine v_putM4 h 46 49 dX4_ends_46 rfl fw_X4_36 ?_
        refine V.world (w' := ml E D S (shP Ps 513) A K T N (upd I 0 (nI 3)) hh w) (by rw [pred4]) ?_
        exact k49 _ 3 _ (by omega) (fun p hp j hj => by
          obtain rfl : ks = 4 := nI_inj (by omega) (by decide) (by rw [← e0]; exact h5)
          unfold cpP va_up psh
          rw [if_pos rfl]
          by_cases e : p = 3
          · rw [if_pos e, if_neg (by omega)]
            exact if_pos hj
          · rw [if_neg e, if_pos (by omega)]
            unfold shP
            rw [if_pos (by unfold shB; rw [Bool.and_eq_true, decide_eq_true_eq, decide_eq_true_eq]; omega)]) (by
          obtain rfl : ks = 4 := nI_inj (by omega) (by decide) (by rw [← e0]; exact h5)
          rfl)
      | succ d ih =>
        intro j hj
        refine v_iload_n (i := 2) h 10 11 dX4_ends_10 rfl rfl ld2 ?_
        refine v_sipush (v := nI 513) h 11 14 dX4_ends_11 rfl (by decide) ?_
        refine v_icmp_ge h 14 17 39 dX4_ends_14 rfl (by decide) (fun h14 => absurd h14 (nI_ge (by omega) (by decide))) (fun h14 => ?_)
        refine v_aload_n (i := 0) h 17 18 dX4_ends_17 rfl rfl ld0 ?_
        refine v_get h 18 21 dX4_ends_18 rfl fo_X4_13 ml_ob rfl ?_
        refine v_iload_n (i := 2) h 21 22 dX4_ends_21 rfl rfl ld2 ?_
        refine v_aload_n (i := 0) h 22 23 dX4_ends_22 rfl rfl ld0 ?_
        refine v_get h 23 26 dX4_ends_23 rfl fo_X4_13 ml_ob rfl ?_
        refine v_iload_n (i := 2) h 26 27 dX4_ends_26 rfl rfl ld2 ?_
        refine v_sipush (v := nI 171) h 27 30 dX4_ends_27 rfl (by decide) ?_
        refine v_iadd h 30 31 dX4_ends_30 rfl ?_
        rw [nI_add, show j + 171 = 171 * (j / 171 + 1) + j % 171 by omega]
        refine v_ildPm h 31 32 (j / 171 + 1) (j % 171) dX4_ends_31 rfl (by omega) (by omega) ?_
        refine v_istPi h 32 33 j dX4_ends_32 rfl (by omega) ?_
        refine v_iinc (i := 2) h 33 36 dX4_ends_33 rfl ld2 (by first | exact iinc1 _ | rfl) (by decide) (so2 rfl) ?_
        refine v_goto h 36 10 dX4_ends_36 (by decide) ?_
        refine V.world (w' := ml E D S (shP Ps (j + 1)) A K T N I hh w) (by rw [← shP_s]) (V.weakT (ih (j + 1) (by omega)) (And.intro rfl (And.intro rfl (And.intro rfl trivial))))
    refine V.world (w' := ml E D S (shP Ps 0) A K T N I hh w) (by rw [shP_0]) (V.weakT (loop10 513 0 (by omega)) (And.intro rfl (And.intro rfl (And.intro rfl trivial))))

