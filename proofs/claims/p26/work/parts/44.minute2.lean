/-! THE LAW'S MINUTE, put together -/
theorem go12_law {S : St} {t : Nat} : go2 (go1 S t) t = upd (upd S (125 + 8 * t + 7) (S (125 + 8 * t + 7) + (if S (125 + 8 * t + 2) = 1 then 1 else 0))) (125 + 8 * t + 3) (S (125 + 8 * t + 3) - 1) := by
  unfold go2
  rw [go1_ne (by omega)]
  unfold go1
  by_cases h : S (125 + 8 * t + 2) = 1
  · rw [if_pos h, if_pos h]
  · rw [if_neg h, if_neg h, Int32.add_zero, upd_same]
set_option maxRecDepth 100000 in
set_option maxHeartbeats 4000000 in
theorem m_go {E : EE} {Γ : Cx} {B : Nat} {w : Wo} {sp nc nt ne m t : Nat} (h : OkB E Γ mL_minute RL) {S : St} (hI : Inv S sp nc nt ne m) (hJ : J2 S nc nt) (hm : m + 1 < 2 ^ 30) (h8 : nc ≤ 8) (ht : t < nt) (kk : V E Γ 0 0 499 [some (.ref B), some (.ref (B + 1)), some (.ref (B + 2)), some (.ref (B + 3)), some (.int (nI t)), none, none, none] [] (lw E B (upd (goS S nt t) 9 (nI (m + 1))) w)) : V E Γ 0 0 92 [some (.ref B), some (.ref (B + 1)), some (.ref (B + 2)), some (.ref (B + 3)), some (.int (nI t)), none, none, none] [] (lw E B (upd S 9 (nI (m + 1))) w) := by
  have hnt := hI.n4
  have hn := hI.n14
  by_cases hz : S (125 + 8 * t + 2) = 0
  · refine v_bipush (v := nI 8) h 92 94 dL_minute_92 rfl (by decide) ?_
    refine v_iload (i := 4) h 94 96 dL_minute_94 rfl ld4 ?_
    refine v_imulN h 96 97 dL_minute_96 rfl ?_
    refine v_istore (i := 5) h 97 99 dL_minute_97 rfl (by decide) (so5 rfl) ?_
    refine v_aload_n (i := 2) h 99 100 dL_minute_99 rfl rfl ld2 ?_
    refine v_iload (i := 5) h 100 102 dL_minute_100 rfl ld5 ?_
    refine v_bipush (v := nI 7) h 102 104 dL_minute_102 rfl (by decide) ?_
    refine v_iaddN h 104 105 dL_minute_104 rfl ?_
    refine v_dup2 h 105 106 dL_minute_105 rfl rfl rfl ?_
    refine v_ldQ h 106 107 t 7 dL_minute_106 rfl (by omega) (by omega) ?_
    simp (disch := omega) only [upd_ne, upd_self]
    refine v_aload_n (i := 2) h 107 108 dL_minute_107 rfl rfl ld2 ?_
    refine v_iload (i := 5) h 108 110 dL_minute_108 rfl ld5 ?_
    refine v_iconst (v := nI 2) h 110 111 dL_minute_110 rfl (by decide) ?_
    refine v_iaddN h 111 112 dL_minute_111 rfl ?_
    refine v_ldQ h 112 113 t 2 dL_minute_112 rfl (by omega) (by omega) ?_
    simp (disch := omega) only [upd_ne, upd_self]
    rw [hz]
    refine v_iconst (v := 1) h 113 114 dL_minute_113 rfl (by decide) ?_
    refine v_icmp_ne h 114 117 121 dL_minute_114 rfl (by decide) (fun h114 => ?_) (fun h114 => absurd h114 (by decide))
    refine v_iconst (v := 0) h 121 122 dL_minute_121 rfl (by decide) ?_
    refine v_iadd h 122 123 dL_minute_122 rfl ?_
    refine v_stQ h 123 124 t 7 dL_minute_123 rfl (by omega) (by omega) ?_
    refine v_aload_n (i := 2) h 124 125 dL_minute_124 rfl rfl ld2 ?_
    refine v_iload (i := 5) h 125 127 dL_minute_125 rfl ld5 ?_
    refine v_iconst (v := nI 3) h 127 128 dL_minute_127 rfl (by decide) ?_
    refine v_iaddN h 128 129 dL_minute_128 rfl ?_
    refine v_dup2 h 129 130 dL_minute_129 rfl rfl rfl ?_
    refine v_ldQ h 130 131 t 3 dL_minute_130 rfl (by omega) (by omega) ?_
    simp (disch := omega) only [upd_ne, upd_self]
    refine v_aload_n (i := 2) h 131 132 dL_minute_131 rfl rfl ld2 ?_
    refine v_iload (i := 5) h 132 134 dL_minute_132 rfl ld5 ?_
    refine v_iconst (v := nI 2) h 134 135 dL_minute_134 rfl (by decide) ?_
    refine v_iaddN h 135 136 dL_minute_135 rfl ?_
    refine v_ldQ h 136 137 t 2 dL_minute_136 rfl (by omega) (by omega) ?_
    simp (disch := omega) only [upd_ne, upd_self]
    rw [hz]
    refine v_if_le h 137 140 144 dL_minute_137 rfl (by decide) (fun h137 => ?_) (fun h137 => absurd (by decide) h137)
    refine v_iconst (v := 0) h 144 145 dL_minute_144 rfl (by decide) ?_
    refine v_isub h 145 146 dL_minute_145 rfl ?_
    refine v_stQ h 146 147 t 3 dL_minute_146 rfl (by omega) (by omega) ?_
    refine v_aload_n (i := 2) h 147 148 dL_minute_147 rfl rfl ld2 ?_
    refine v_iload (i := 5) h 148 150 dL_minute_148 rfl ld5 ?_
    refine v_iconst (v := nI 2) h 150 151 dL_minute_150 rfl (by decide) ?_
    refine v_iaddN h 151 152 dL_minute_151 rfl ?_
    refine v_ldQ h 152 153 t 2 dL_minute_152 rfl (by omega) (by omega) ?_
    simp (disch := omega) only [upd_ne, upd_self]
    rw [hz]
    refine v_if_le h 153 156 499 dL_minute_153 rfl (by decide) (fun h153 => ?_) (fun h153 => absurd (by decide) h153)
    refine V.world (congrArg (fun z => lw E B z w) ?_) (V.weakT kk (And.intro rfl (And.intro rfl (And.intro rfl (And.intro rfl (And.intro rfl trivial))))))
    rw [goS, if_pos hz]
    funext i
    by_cases q0 : i = 9
    · subst q0
      simp (disch := omega) only [upd_self, upd_ne, Int32.add_zero, Int32.sub_zero]
    by_cases q1 : i = 125 + 8 * t + 3
    · subst q1
      simp (disch := omega) only [upd_self, upd_ne, Int32.add_zero, Int32.sub_zero]
    by_cases q2 : i = 125 + 8 * t + 7
    · subst q2
      simp (disch := omega) only [upd_self, upd_ne, Int32.add_zero, Int32.sub_zero]
    simp (disch := omega) only [upd_ne]
  · obtain ⟨⟨y, hy, ey⟩, ho⟩ := hJ.go12 ht hz hn
    have IA := inv_go2 hI (t := t) (by omega)
    have hT := IA.2.2.2 t ht
    have e2 : ¬ (go2 (go1 S t) t) (125 + 8 * t + 2) = 0 := by rw [ho _ (by omega) (by omega)]; exact hz
    have hle0 : ¬ S (125 + 8 * t + 2) ≤ 0 := fun q => hz (tm0 hI ht q)
    have hle : ¬ (go2 (go1 S t) t) (125 + 8 * t + 2) ≤ 0 := by rw [ho _ (by omega) (by omega)]; exact hle0
    rw [goS, if_neg hz] at kk
    have JA : ∀ c, c < nc → mn1 ((go2 (go1 S t) t) (13 + 8 * c + 7)) := fun c hc => by rw [ho _ (by omega) (by omega)]; exact (hJ.1 c hc).2
    refine v_bipush (v := nI 8) h 92 94 dL_minute_92 rfl (by decide) ?_
    refine v_iload (i := 4) h 94 96 dL_minute_94 rfl ld4 ?_
    refine v_imulN h 96 97 dL_minute_96 rfl ?_
    refine v_istore (i := 5) h 97 99 dL_minute_97 rfl (by decide) (so5 rfl) ?_
    refine v_aload_n (i := 2) h 99 100 dL_minute_99 rfl rfl ld2 ?_
    refine v_iload (i := 5) h 100 102 dL_minute_100 rfl ld5 ?_
    refine v_bipush (v := nI 7) h 102 104 dL_minute_102 rfl (by decide) ?_
    refine v_iaddN h 104 105 dL_minute_104 rfl ?_
    refine v_dup2 h 105 106 dL_minute_105 rfl rfl rfl ?_
    refine v_ldQ h 106 107 t 7 dL_minute_106 rfl (by omega) (by omega) ?_
    simp (disch := omega) only [upd_ne, upd_self]
    refine v_aload_n (i := 2) h 107 108 dL_minute_107 rfl rfl ld2 ?_
    refine v_iload (i := 5) h 108 110 dL_minute_108 rfl ld5 ?_
    refine v_iconst (v := nI 2) h 110 111 dL_minute_110 rfl (by decide) ?_
    refine v_iaddN h 111 112 dL_minute_111 rfl ?_
    refine v_ldQ h 112 113 t 2 dL_minute_112 rfl (by omega) (by omega) ?_
    simp (disch := omega) only [upd_ne, upd_self]
    refine v_iconst (v := 1) h 113 114 dL_minute_113 rfl (by decide) ?_
    refine v_ternN 122 121 117 (fun a b => v_icmp_ne h 114 117 121 dL_minute_114 rfl (by decide) a b) (fun kk => v_iconst (v := 0) h 121 122 dL_minute_121 rfl (by decide) kk) (fun kk => v_iconst (v := 1) h 117 118 dL_minute_117 rfl (by decide) (v_goto h 118 122 dL_minute_118 (by decide) kk)) ?_
    refine v_iadd h 122 123 dL_minute_122 rfl ?_
    refine v_stQ h 123 124 t 7 dL_minute_123 rfl (by omega) (by omega) ?_
    refine v_aload_n (i := 2) h 124 125 dL_minute_124 rfl rfl ld2 ?_
    refine v_iload (i := 5) h 125 127 dL_minute_125 rfl ld5 ?_
    refine v_iconst (v := nI 3) h 127 128 dL_minute_127 rfl (by decide) ?_
    refine v_iaddN h 128 129 dL_minute_128 rfl ?_
    refine v_dup2 h 129 130 dL_minute_129 rfl rfl rfl ?_
    refine v_ldQ h 130 131 t 3 dL_minute_130 rfl (by omega) (by omega) ?_
    simp (disch := omega) only [upd_ne, upd_self]
    refine v_aload_n (i := 2) h 131 132 dL_minute_131 rfl rfl ld2 ?_
    refine v_iload (i := 5) h 132 134 dL_minute_132 rfl ld5 ?_
    refine v_iconst (v := nI 2) h 134 135 dL_minute_134 rfl (by decide) ?_
    refine v_iaddN h 135 136 dL_minute_135 rfl ?_
    refine v_ldQ h 136 137 t 2 dL_minute_136 rfl (by omega) (by omega) ?_
    simp (disch := omega) only [upd_ne, upd_self]
    refine v_if_le h 137 140 144 dL_minute_137 rfl (by decide) (fun h137 => absurd h137 hle0) (fun h137 => ?_)
    refine v_iconst (v := 1) h 140 141 dL_minute_140 rfl (by decide) ?_
    refine v_goto h 141 145 dL_minute_141 (by decide) ?_
    refine v_isub h 145 146 dL_minute_145 rfl ?_
    refine v_stQ h 146 147 t 3 dL_minute_146 rfl (by omega) (by omega) ?_
    refine V.world (w' := lw E B (upd (go2 (go1 S t) t) 9 (nI (m + 1))) w) (congrArg (fun z => lw E B z w) ?_) ?_
    · rw [go12_law]
      funext i
      by_cases q0 : i = 9
      · subst q0
        simp (disch := omega) only [upd_self, upd_ne]
      by_cases q1 : i = 125 + 8 * t + 3
      · subst q1
        simp (disch := omega) only [upd_self, upd_ne]
      by_cases q2 : i = 125 + 8 * t + 7
      · subst q2
        simp (disch := omega) only [upd_self, upd_ne]
      simp (disch := omega) only [upd_ne]
    generalize go2 (go1 S t) t = Z at IA ey e2 ho hT JA kk hle ⊢
    refine v_aload_n (i := 2) h 147 148 dL_minute_147 rfl rfl ld2 ?_
    refine v_iload (i := 5) h 148 150 dL_minute_148 rfl ld5 ?_
    refine v_iconst (v := nI 2) h 150 151 dL_minute_150 rfl (by decide) ?_
    refine v_iaddN h 151 152 dL_minute_151 rfl ?_
    refine v_ldQ h 152 153 t 2 dL_minute_152 rfl (by omega) (by omega) ?_
    simp (disch := omega) only [upd_ne, upd_self]
    refine v_if_le h 153 156 499 dL_minute_153 rfl (by decide) (fun h153 => absurd h153 hle) (fun h153 => ?_)
    refine v_aload_n (i := 2) h 156 157 dL_minute_156 rfl rfl ld2 ?_
    refine v_iload (i := 5) h 157 159 dL_minute_157 rfl ld5 ?_
    refine v_iconst (v := nI 3) h 159 160 dL_minute_159 rfl (by decide) ?_
    refine v_iaddN h 160 161 dL_minute_160 rfl ?_
    refine v_ldQ h 161 162 t 3 dL_minute_161 rfl (by omega) (by omega) ?_
    simp (disch := omega) only [upd_ne, upd_self]
    refine v_if_ne h 162 165 499 dL_minute_162 rfl (by decide) (fun h162 => ?_) (fun h162 => ?_)
    · have ky : ¬ y = 0 := fun q => h162 (by rw [ey, q]; rfl)
      rw [go3, if_neg (by rw [ey]; exact nI_nle (by omega) (by omega))] at kk
      refine V.world (congrArg (fun z => lw E B z w) ?_) (V.weakT kk (And.intro rfl (And.intro rfl (And.intro rfl (And.intro rfl (And.intro rfl trivial))))))
      rfl
    · have y0' : Z (125 + 8 * t + 3) = 0 := h162
      have ky : y = 0 := by
        rw [ey] at h162
        exact nI_inj (b := 0) (by omega) (by omega) h162
      rw [go3, if_pos (by rw [ey, ky]; decide)] at kk
      by_cases z3 : Z (125 + 8 * t + 2) = 3
      · rw [if_pos z3] at kk
        have z4 : Z (125 + 8 * t + 4) = -1 := by
          rcases hT.2.2 with ⟨-, d⟩ | ⟨d | d, -⟩
          · exact d
          · exact absurd (z3.symm.trans d) i31
          · exact absurd (z3.symm.trans d) i32'
        exact m_rest h IA h8 ht y0' z3 z4 kk
      · rw [if_neg z3] at kk
        obtain ⟨zz, c, hc, e4, e5, e6⟩ := hT.busy e2 z3
        rw [e4, cnt_nI (by omega)] at kk
        by_cases z1 : Z (125 + 8 * t + 2) = 1
        · rw [if_pos z1] at kk
          exact m_bring h IA h8 ht hc z1 e4 kk
        · rw [if_neg z1] at kk
          have hne := (inv_fin IA ht hc e5 e6).2
          exact m_fin h IA JA hm h8 ht hc (by omega) (zz.resolve_left z1) e4 kk

set_option maxRecDepth 100000 in
set_option maxHeartbeats 4000000 in
theorem m_take {E : EE} {Γ : Cx} {B : Nat} {w : Wo} {sp nc nt ne m t : Nat} (h : OkB E Γ mL_minute RL) {S : St} (hI : Inv S sp nc nt ne m) (h8 : nc ≤ 8) (ht : t < nt) (kk : V E Γ 0 0 641 [some (.ref B), some (.ref (B + 1)), some (.ref (B + 2)), some (.ref (B + 3)), some (.int (nI t)), none, none, none] [] (lw E B (upd (takeS S nc nt t) 9 (nI (m + 1))) w)) : V E Γ 0 0 517 [some (.ref B), some (.ref (B + 1)), some (.ref (B + 2)), some (.ref (B + 3)), some (.int (nI t)), none, none, none] [] (lw E B (upd S 9 (nI (m + 1))) w) := by
  have hnt := hI.n4
  have hn := hI.n14
  refine v_bipush (v := nI 8) h 517 519 dL_minute_517 rfl (by decide) ?_
  refine v_iload (i := 4) h 519 521 dL_minute_519 rfl ld4 ?_
  refine v_imulN h 521 522 dL_minute_521 rfl ?_
  refine v_istore (i := 5) h 522 524 dL_minute_522 rfl (by decide) (so5 rfl) ?_
  refine v_aload_n (i := 2) h 524 525 dL_minute_524 rfl rfl ld2 ?_
  refine v_iload (i := 5) h 525 527 dL_minute_525 rfl ld5 ?_
  refine v_iconst (v := nI 2) h 527 528 dL_minute_527 rfl (by decide) ?_
  refine v_iaddN h 528 529 dL_minute_528 rfl ?_
  refine v_ldQ h 529 530 t 2 dL_minute_529 rfl (by omega) (by omega) ?_
  simp (disch := omega) only [upd_ne, upd_self]
  refine v_if_ne h 530 533 545 dL_minute_530 rfl (by decide) (fun h530 => ?_) (fun h530 => ?_)
  · refine v_iconst (v := (-1)) h 545 546 dL_minute_545 rfl (by decide) ?_
    refine v_istore (i := 6) h 546 548 dL_minute_546 rfl (by decide) (so6 rfl) ?_
    refine v_iload (i := 6) h 548 550 dL_minute_548 rfl ld6 ?_
    refine v_if_lt h 550 553 641 dL_minute_550 rfl (by decide) (fun h550 => ?_) (fun h550 => absurd (by decide) h550)
    refine V.world (congrArg (fun z => lw E B z w) ?_) (V.weakT kk (And.intro rfl (And.intro rfl (And.intro rfl (And.intro rfl (And.intro rfl trivial))))))
    rw [takeS, if_neg h530]
  · refine v_aload_n (i := 0) h 533 534 dL_minute_533 rfl rfl ld0 ?_
    refine v_aload_n (i := 1) h 534 535 dL_minute_534 rfl rfl ld1 ?_
    refine v_aload_n (i := 2) h 535 536 dL_minute_535 rfl rfl ld2 ?_
    refine v_iload (i := 5) h 536 538 dL_minute_536 rfl ld5 ?_
    refine v_ldQ0 h 538 539 t dL_minute_538 rfl (by omega) ?_
    simp (disch := omega) only [upd_ne, upd_self]
    refine v_callS1 h 539 542 dL_minute_539 rfl cb_L_choice cs_L_choice lk_L_19 (rok (by decide) (by decide)) ⟨rfl, rfl⟩ ⟨Nat.zero_le _, Nat.zero_le _⟩ (k_choice (inv_9 hI) h8 (hI.InT t ht)) rfl rfl (Nat.le_of_ble_eq_true rfl) ?_
    refine v_goto h 542 546 dL_minute_542 (by decide) ?_
    rw [u9_chs (hI.InT t ht) hI.InC nc (Nat.le_refl _)]
    rcases chs_in S (S (125 + 8 * t + 0)) nc (by omega) with hp | ⟨c, hc, hp, h0⟩
    · rw [hp]
      refine v_istore (i := 6) h 546 548 dL_minute_546 rfl (by decide) (so6 rfl) ?_
      refine v_iload (i := 6) h 548 550 dL_minute_548 rfl ld6 ?_
      refine v_if_lt h 550 553 641 dL_minute_550 rfl (by decide) (fun h550 => ?_) (fun h550 => absurd (by decide) h550)
      refine V.world (congrArg (fun z => lw E B z w) ?_) (V.weakT kk (And.intro rfl (And.intro rfl (And.intro rfl (And.intro rfl (And.intro rfl trivial))))))
      rw [takeS, if_pos h530, if_pos hp]
    · rw [hp]
      rw [takeS, if_pos h530, if_neg (by rw [hp]; exact nI_ne_m1 (by omega)), hp, cnt_nI (by omega)] at kk
      have qw : wayV (takS S t c) (takS S t c (125 + 8 * t + 0)) (takS S t c (13 + 8 * c + 0)) = wayV S (S (125 + 8 * t + 0)) (S (13 + 8 * c + 0)) := by
        rw [tak_ne (by omega) (by omega) (by omega), tak_ne (by omega) (by omega) (by omega)]
        exact wayV_eq (fun k hk => tak_ne (by omega) (by omega) (by omega)) (hI.InT t ht) (hI.InC c hc)
      rw [tak2, qw] at kk
      obtain ⟨a, ha, ea⟩ := way_is hI (hI.InT t ht) (hI.InC c hc)
      rw [ea] at kk
      have hU : upd (upd (upd (upd S 9 (nI (m + 1))) (13 + 8 * c + 4) 1) (13 + 8 * c + 5) (nI t)) (125 + 8 * t + 4) (nI c) = upd (takS S t c) 9 (nI (m + 1)) := by
        unfold takS
        funext i
        by_cases q0 : i = 9
        · subst q0
          simp (disch := omega) only [upd_self, upd_ne]
        by_cases q1 : i = 13 + 8 * c + 4
        · subst q1
          simp (disch := omega) only [upd_self, upd_ne]
        by_cases q2 : i = 13 + 8 * c + 5
        · subst q2
          simp (disch := omega) only [upd_self, upd_ne]
        by_cases q3 : i = 125 + 8 * t + 4
        · subst q3
          simp (disch := omega) only [upd_self, upd_ne]
        simp (disch := omega) only [upd_ne]
      refine v_istore (i := 6) h 546 548 dL_minute_546 rfl (by decide) (so6 rfl) ?_
      refine v_iload (i := 6) h 548 550 dL_minute_548 rfl ld6 ?_
      refine v_if_lt h 550 553 641 dL_minute_550 rfl (by decide) (fun h550 => absurd h550 (nI_nlt (a := c) (b := 0) (by omega) (by omega))) (fun h550 => ?_)
      refine v_aload_n (i := 1) h 553 554 dL_minute_553 rfl rfl ld1 ?_
      refine v_bipush (v := nI 8) h 554 556 dL_minute_554 rfl (by decide) ?_
      refine v_iload (i := 6) h 556 558 dL_minute_556 rfl ld6 ?_
      refine v_imulN h 558 559 dL_minute_558 rfl ?_
      refine v_iconst (v := nI 4) h 559 560 dL_minute_559 rfl (by decide) ?_
      refine v_iaddN h 560 561 dL_minute_560 rfl ?_
      refine v_iconst (v := 1) h 561 562 dL_minute_561 rfl (by decide) ?_
      refine v_stE h 562 563 c 4 dL_minute_562 rfl (by omega) (by omega) ?_
      refine v_aload_n (i := 1) h 563 564 dL_minute_563 rfl rfl ld1 ?_
      refine v_bipush (v := nI 8) h 564 566 dL_minute_564 rfl (by decide) ?_
      refine v_iload (i := 6) h 566 568 dL_minute_566 rfl ld6 ?_
      refine v_imulN h 568 569 dL_minute_568 rfl ?_
      refine v_iconst (v := nI 5) h 569 570 dL_minute_569 rfl (by decide) ?_
      refine v_iaddN h 570 571 dL_minute_570 rfl ?_
      refine v_iload (i := 4) h 571 573 dL_minute_571 rfl ld4 ?_
      refine v_stE h 573 574 c 5 dL_minute_573 rfl (by omega) (by omega) ?_
      refine v_aload_n (i := 2) h 574 575 dL_minute_574 rfl rfl ld2 ?_
      refine v_iload (i := 5) h 575 577 dL_minute_575 rfl ld5 ?_
      refine v_iconst (v := nI 4) h 577 578 dL_minute_577 rfl (by decide) ?_
      refine v_iaddN h 578 579 dL_minute_578 rfl ?_
      refine v_iload (i := 6) h 579 581 dL_minute_579 rfl ld6 ?_
      refine v_stQ h 581 582 t 4 dL_minute_581 rfl (by omega) (by omega) ?_
      refine v_aload_n (i := 0) h 582 583 dL_minute_582 rfl rfl ld0 ?_
      refine v_aload_n (i := 2) h 583 584 dL_minute_583 rfl rfl ld2 ?_
      refine v_iload (i := 5) h 584 586 dL_minute_584 rfl ld5 ?_
      refine v_ldQ0 h 586 587 t dL_minute_586 rfl (by omega) ?_
      simp (disch := omega) only [upd_ne, upd_self]
      refine v_aload_n (i := 1) h 587 588 dL_minute_587 rfl rfl ld1 ?_
      refine v_bipush (v := nI 8) h 588 590 dL_minute_588 rfl (by decide) ?_
      refine v_iload (i := 6) h 590 592 dL_minute_590 rfl ld6 ?_
      refine v_imulN h 592 593 dL_minute_592 rfl ?_
      refine v_ldE0 h 593 594 c dL_minute_593 rfl (by omega) ?_
      simp (disch := omega) only [upd_ne, upd_self]
      refine v_callS1 h 594 597 dL_minute_594 rfl cb_L_far cs_L_far lk_L_9 (rok (by decide) (by decide)) ⟨rfl, rfl⟩ ⟨Nat.zero_le _, Nat.zero_le _⟩ (k_far (hI.InT t ht) (hI.InC c hc)) rfl rfl (Nat.le_of_ble_eq_true rfl) ?_
      rw [wayV_eq (S := S) (fun k hk => by simp (disch := omega) only [upd_ne]) (hI.InT t ht) (hI.InC c hc), ea]
      rcases Nat.eq_zero_or_pos a with a0 | a0
      · subst a0
        refine v_istore (i := 7) h 597 599 dL_minute_597 rfl (by decide) (so7 rfl) ?_
        refine v_aload_n (i := 2) h 599 600 dL_minute_599 rfl rfl ld2 ?_
        refine v_iload (i := 5) h 600 602 dL_minute_600 rfl ld5 ?_
        refine v_iconst (v := nI 3) h 602 603 dL_minute_602 rfl (by decide) ?_
        refine v_iaddN h 603 604 dL_minute_603 rfl ?_
        refine v_iload (i := 7) h 604 606 dL_minute_604 rfl ld7 ?_
        refine v_if_le h 606 609 614 dL_minute_606 rfl (by decide) (fun h606 => ?_) (fun h606 => absurd (by decide) h606)
        refine v_aload_n (i := 0) h 614 615 dL_minute_614 rfl rfl ld0 ?_
        refine v_aload_n (i := 1) h 615 616 dL_minute_615 rfl rfl ld1 ?_
        refine v_aload_n (i := 2) h 616 617 dL_minute_616 rfl rfl ld2 ?_
        refine v_iload (i := 6) h 617 619 dL_minute_617 rfl ld6 ?_
        refine v_iload (i := 4) h 619 621 dL_minute_619 rfl ld4 ?_
        refine v_callS1 h 621 624 dL_minute_621 rfl cb_L_work cs_L_work lk_L_15 (rok (by decide) (by decide)) ⟨rfl, rfl⟩ ⟨Nat.zero_le _, Nat.zero_le _⟩ (k_work (c := c) (t := t) hnt (by omega) ht (by simp (disch := omega) only [upd_ne]; exact hI.c8) (by simp (disch := omega) only [upd_ne]; exact (hI.2.2.1 c hc).2.1) (by simp (disch := omega) only [upd_ne]; exact (hI.2.2.2 t ht).2.1)) rfl rfl (Nat.le_of_ble_eq_true rfl) ?_
        simp (disch := omega) only [upd_ne]
        refine v_stQ h 624 625 t 3 dL_minute_624 rfl (by omega) (by omega) ?_
        refine v_aload_n (i := 2) h 625 626 dL_minute_625 rfl rfl ld2 ?_
        refine v_iload (i := 5) h 626 628 dL_minute_626 rfl ld5 ?_
        refine v_iconst (v := nI 2) h 628 629 dL_minute_628 rfl (by decide) ?_
        refine v_iaddN h 629 630 dL_minute_629 rfl ?_
        refine v_iload (i := 7) h 630 632 dL_minute_630 rfl ld7 ?_
        refine v_if_le h 632 635 639 dL_minute_632 rfl (by decide) (fun h632 => ?_) (fun h632 => absurd (by decide) h632)
        refine v_iconst (v := 2) h 639 640 dL_minute_639 rfl (by decide) ?_
        refine v_stQ h 640 641 t 2 dL_minute_640 rfl (by omega) (by omega) ?_
        rw [if_pos (show nI 0 = 0 from rfl)] at kk
        have q0 : S (125 + 8 * t + 0) = S (13 + 8 * c + 0) := wayV_0 hI.1.1.2.2.2 (hI.InT t ht) (hI.InC c hc) ea
        have q1 : upd (takS S t c) (125 + 8 * t + 0) (takS S t c (13 + 8 * c + 0)) = takS S t c := upd_is (by rw [tak_ne (by omega) (by omega) (by omega), tak_ne (by omega) (by omega) (by omega)]; exact q0)
        rw [bringS, q1] at kk
        rw [hU]
        have hw : wkS (upd (takS S t c) 9 (nI (m + 1))) nt c (nI t) (S (125 + 8 * t + 1)) = wkS (takS S t c) nt c (nI t) (takS S t c (125 + 8 * t + 1)) := by
          rw [tak_ne (i := 125 + 8 * t + 1) (by omega) (by omega) (by omega)]
          exact wk_eq (upd_ne _ _ (by omega)) (upd_ne _ _ (by omega)) (fun i hi hne => ⟨upd_ne _ _ (by omega), upd_ne _ _ (by omega)⟩)
        rw [hw]
        refine V.world (congrArg (fun z => lw E B z w) ?_) (V.weakT kk (And.intro rfl (And.intro rfl (And.intro rfl (And.intro rfl (And.intro rfl trivial))))))
        rw [upd_comm (i := 9) (j := 125 + 8 * t + 3) (by omega), upd_comm (i := 9) (j := 125 + 8 * t + 2) (by omega)]
      · refine v_istore (i := 7) h 597 599 dL_minute_597 rfl (by decide) (so7 rfl) ?_
        refine v_aload_n (i := 2) h 599 600 dL_minute_599 rfl rfl ld2 ?_
        refine v_iload (i := 5) h 600 602 dL_minute_600 rfl ld5 ?_
        refine v_iconst (v := nI 3) h 602 603 dL_minute_602 rfl (by decide) ?_
        refine v_iaddN h 603 604 dL_minute_603 rfl ?_
        refine v_iload (i := 7) h 604 606 dL_minute_604 rfl ld7 ?_
        refine v_if_le h 606 609 614 dL_minute_606 rfl (by decide) (fun h606 => absurd h606 (nI_ge (a := 0) (b := a) (by omega) (by omega))) (fun h606 => ?_)
        refine v_iload (i := 7) h 609 611 dL_minute_609 rfl ld7 ?_
        refine v_goto h 611 624 dL_minute_611 (by decide) ?_
        refine v_stQ h 624 625 t 3 dL_minute_624 rfl (by omega) (by omega) ?_
        refine v_aload_n (i := 2) h 625 626 dL_minute_625 rfl rfl ld2 ?_
        refine v_iload (i := 5) h 626 628 dL_minute_626 rfl ld5 ?_
        refine v_iconst (v := nI 2) h 628 629 dL_minute_628 rfl (by decide) ?_
        refine v_iaddN h 629 630 dL_minute_629 rfl ?_
        refine v_iload (i := 7) h 630 632 dL_minute_630 rfl ld7 ?_
        refine v_if_le h 632 635 639 dL_minute_632 rfl (by decide) (fun h632 => absurd h632 (nI_ge (a := 0) (b := a) (by omega) (by omega))) (fun h632 => ?_)
        refine v_iconst (v := 1) h 635 636 dL_minute_635 rfl (by decide) ?_
        refine v_goto h 636 640 dL_minute_636 (by decide) ?_
        refine v_stQ h 640 641 t 2 dL_minute_640 rfl (by omega) (by omega) ?_
        rw [if_neg (nI_ne0 a0 (by omega))] at kk
        rw [hU]
        refine V.world (congrArg (fun z => lw E B z w) ?_) (V.weakT kk (And.intro rfl (And.intro rfl (And.intro rfl (And.intro rfl (And.intro rfl trivial))))))
        rw [upd_comm (i := 9) (j := 125 + 8 * t + 3) (by omega), upd_comm (i := 9) (j := 125 + 8 * t + 2) (by omega), upd_comm (i := 125 + 8 * t + 3) (j := 125 + 8 * t + 2) (by omega)]

set_option maxRecDepth 100000 in
set_option maxHeartbeats 4000000 in
theorem k_minute {E : EE} {B : Nat} {R : St} {w : Wo} {sp nc nt ne m : Nat} (hI : Inv R sp nc nt ne m) (hJ : J2 R nc nt) (h8 : nc ≤ 8) (hm : m < 2 ^ 30 - 10) : Cd E mL_minute (lw E B R w) [.ref B, .ref (B + 1), .ref (B + 2), .ref (B + 3)] (none) (lw E B (minS R m nc nt) w) := by
  refine Cd.of RL rfl (by decide) [some (.ref B), some (.ref (B + 1)), some (.ref (B + 2)), some (.ref (B + 3)), none, none, none, none] (Nat.le_of_ble_eq_true rfl) rfl (fun Γ h f hmn => ?_)
  have hnt := hI.n4
  have hn := hI.n14
  have hm1 : m + 1 < 2 ^ 30 := by omega
  have k80 : ∀ i4, V E Γ 0 0 80 [some (.ref B), some (.ref (B + 1)), some (.ref (B + 2)), some (.ref (B + 3)), i4, none, none, none] [] (lw E B (upd (minA R m nc) 9 (nI (m + 1))) w) := by
    intro i4
    have IA := inv_minA hI
    have JA := hJ.mA hI
    have f : Fn E Γ mL_minute none (lw E B (upd (takN (goN (minA R m nc) nt nt) nc nt nt) 9 (nI (m + 1))) w) := f
    generalize minA R m nc = Z at f IA JA ⊢
    have loop83 : ∀ d j, j + d = nt → V E Γ 0 0 83 [some (.ref B), some (.ref (B + 1)), some (.ref (B + 2)), some (.ref (B + 3)), some (.int (nI j)), none, none, none] [] (lw E B (upd (goN Z nt j) 9 (nI (m + 1))) w) := by
      intro d
      induction d with
      | zero =>
        intro j hj
        obtain rfl : nt = j := by omega
        obtain ⟨ne2, hIj⟩ := inv_goN IA nt (Nat.le_refl _)
        refine v_iload (i := 4) h 83 85 dL_minute_83 rfl ld4 ?_
        refine v_aload_n (i := 0) h 85 86 dL_minute_85 rfl rfl ld0 ?_
        refine v_bipush (v := nI 8) h 86 88 dL_minute_86 rfl (by decide) ?_
        refine v_ldG h 88 89 8 dL_minute_88 rfl (by omega) ?_
        simp (disch := omega) only [upd_ne, upd_self]
        rw [hIj.c8]
        refine v_icmp_ge h 89 92 505 dL_minute_89 rfl (by decide) (fun h89 => ?_) (fun h89 => absurd (nI_le (a := nt) (b := nt) (by omega) (by omega)) h89)
        have hIg := hIj
        have loop508 : ∀ d j, j + d = nt → V E Γ 0 0 508 [some (.ref B), some (.ref (B + 1)), some (.ref (B + 2)), some (.ref (B + 3)), some (.int (nI j)), none, none, none] [] (lw E B (upd (takN (goN Z nt nt) nc nt j) 9 (nI (m + 1))) w) := by
          intro d
          induction d with
          | zero =>
            intro j hj
            obtain rfl : nt = j := by omega
            have hIj := inv_takN hIg nt (Nat.le_refl _)
            refine v_iload (i := 4) h 508 510 dL_minute_508 rfl ld4 ?_
            refine v_aload_n (i := 0) h 510 511 dL_minute_510 rfl rfl ld0 ?_
            refine v_bipush (v := nI 8) h 511 513 dL_minute_511 rfl (by decide) ?_
            refine v_ldG h 513 514 8 dL_minute_513 rfl (by omega) ?_
            simp (disch := omega) only [upd_ne, upd_self]
            rw [hIj.c8]
            refine v_icmp_ge h 514 517 647 dL_minute_514 rfl (by decide) (fun h514 => ?_) (fun h514 => absurd (nI_le (a := nt) (b := nt) (by omega) (by omega)) h514)
            exact v_ret h 647 f dL_minute_647 rfl (Nat.zero_le _) (Nat.zero_le _) rfl rfl
          | succ d ih =>
            intro j hj
            have hIj := inv_takN hIg j (by omega)
            refine v_iload (i := 4) h 508 510 dL_minute_508 rfl ld4 ?_
            refine v_aload_n (i := 0) h 510 511 dL_minute_510 rfl rfl ld0 ?_
            refine v_bipush (v := nI 8) h 511 513 dL_minute_511 rfl (by decide) ?_
            refine v_ldG h 513 514 8 dL_minute_513 rfl (by omega) ?_
            simp (disch := omega) only [upd_ne, upd_self]
            rw [hIj.c8]
            refine v_icmp_ge h 514 517 647 dL_minute_514 rfl (by decide) (fun h514 => absurd h514 (nI_ge (a := j) (b := nt) (by omega) (by omega))) (fun h514 => ?_)
            refine m_take h hIj h8 (by omega) ?_
            refine v_iinc (i := 4) h 641 644 dL_minute_641 rfl ld4 (by first | exact iinc1 _ | rfl) (by decide) (so4 rfl) ?_
            refine v_goto h 644 508 dL_minute_644 (by decide) ?_
            have q := ih (j + 1) (by omega)
            rw [takN_s] at q
            exact V.weakT q (And.intro rfl (And.intro rfl (And.intro rfl (And.intro rfl (And.intro rfl trivial)))))
        refine v_iconst (v := 0) h 505 506 dL_minute_505 rfl (by decide) ?_
        refine v_istore (i := 4) h 506 508 dL_minute_506 rfl (by decide) (so4 rfl) ?_
        exact V.weakT (loop508 nt 0 (by omega)) (And.intro rfl (And.intro rfl (And.intro rfl (And.intro rfl (And.intro rfl trivial)))))
      | succ d ih =>
        intro j hj
        obtain ⟨ne2, hIj⟩ := inv_goN IA j (by omega)
        have hJj := j2_goN JA IA hm1 j (by omega)
        refine v_iload (i := 4) h 83 85 dL_minute_83 rfl ld4 ?_
        refine v_aload_n (i := 0) h 85 86 dL_minute_85 rfl rfl ld0 ?_
        refine v_bipush (v := nI 8) h 86 88 dL_minute_86 rfl (by decide) ?_
        refine v_ldG h 88 89 8 dL_minute_88 rfl (by omega) ?_
        simp (disch := omega) only [upd_ne, upd_self]
        rw [hIj.c8]
        refine v_icmp_ge h 89 92 505 dL_minute_89 rfl (by decide) (fun h89 => absurd h89 (nI_ge (a := j) (b := nt) (by omega) (by omega))) (fun h89 => ?_)
        refine m_go h hIj hJj hm1 h8 (by omega) ?_
        refine v_iinc (i := 4) h 499 502 dL_minute_499 rfl ld4 (by first | exact iinc1 _ | rfl) (by decide) (so4 rfl) ?_
        refine v_goto h 502 83 dL_minute_502 (by decide) ?_
        have q := ih (j + 1) (by omega)
        rw [goN_s] at q
        exact V.weakT q (And.intro rfl (And.intro rfl (And.intro rfl (And.intro rfl (And.intro rfl trivial)))))
    refine v_iconst (v := 0) h 80 81 dL_minute_80 rfl (by decide) ?_
    refine v_istore (i := 4) h 81 83 dL_minute_81 rfl (by decide) (so4 rfl) ?_
    exact V.weakT (loop83 nt 0 (by omega)) (And.intro rfl (And.intro rfl (And.intro rfl (And.intro rfl (And.intro rfl trivial)))))
  refine v_aload_n (i := 0) h 0 1 dL_minute_0 rfl rfl ld0 ?_
  refine v_bipush (v := nI 9) h 1 3 dL_minute_1 rfl (by decide) ?_
  refine v_dup2 h 3 4 dL_minute_3 rfl rfl rfl ?_
  refine v_ldG h 4 5 9 dL_minute_4 rfl (by omega) ?_
  rw [hI.c9]
  refine v_iconst (v := nI 1) h 5 6 dL_minute_5 rfl (by decide) ?_
  refine v_iaddN h 6 7 dL_minute_6 rfl ?_
  refine v_stG h 7 8 9 dL_minute_7 rfl (by omega) ?_
  refine v_iconst (v := 0) h 8 9 dL_minute_8 rfl (by decide) ?_
  refine v_istore (i := 4) h 9 11 dL_minute_9 rfl (by decide) (so4 rfl) ?_
  by_cases e10 : (m + 1) % 10 = 0
  · have loop11 : ∀ d j, j + d = nc → V E Γ 0 0 11 [some (.ref B), some (.ref (B + 1)), some (.ref (B + 2)), some (.ref (B + 3)), some (.int (nI j)), none, none, none] [] (lw E B (upd (coldS R j) 9 (nI (m + 1))) w) := by
      intro d
      induction d with
      | zero =>
        intro j hj
        obtain rfl : nc = j := by omega
        have hIj := inv_coldS hI nc (Nat.le_refl _)
        
        refine v_iload (i := 4) h 11 13 dL_minute_11 rfl ld4 ?_
        refine v_aload_n (i := 0) h 13 14 dL_minute_13 rfl rfl ld0 ?_
        refine v_bipush (v := nI 7) h 14 16 dL_minute_14 rfl (by decide) ?_
        refine v_ldG h 16 17 7 dL_minute_16 rfl (by omega) ?_
        simp (disch := omega) only [upd_ne, upd_self]
        rw [hIj.c7]
        refine v_icmp_ge h 17 20 80 dL_minute_17 rfl (by decide) (fun h17 => ?_) (fun h17 => absurd (nI_le (a := nc) (b := nc) (by omega) (by omega)) h17)
        have q := k80 (some (.int (nI nc)))
        rw [minA, if_pos e10] at q
        exact q
      | succ d ih =>
        intro j hj
        have hIj := inv_coldS hI j (by omega)
        
        refine v_iload (i := 4) h 11 13 dL_minute_11 rfl ld4 ?_
        refine v_aload_n (i := 0) h 13 14 dL_minute_13 rfl rfl ld0 ?_
        refine v_bipush (v := nI 7) h 14 16 dL_minute_14 rfl (by decide) ?_
        refine v_ldG h 16 17 7 dL_minute_16 rfl (by omega) ?_
        simp (disch := omega) only [upd_ne, upd_self]
        rw [hIj.c7]
        refine v_icmp_ge h 17 20 80 dL_minute_17 rfl (by decide) (fun h17 => absurd h17 (nI_ge (a := j) (b := nc) (by omega) (by omega))) (fun h17 => ?_)
        refine v_aload_n (i := 0) h 20 21 dL_minute_20 rfl rfl ld0 ?_
        refine v_bipush (v := nI 9) h 21 23 dL_minute_21 rfl (by decide) ?_
        refine v_ldG h 23 24 9 dL_minute_23 rfl (by omega) ?_
        simp (disch := omega) only [upd_ne, upd_self]
        refine v_bipush (v := nI 10) h 24 26 dL_minute_24 rfl (by decide) ?_
        refine v_iremN h 26 27 dL_minute_26 rfl (by omega) (by omega) (by omega) ?_
        refine v_if_ne h 27 30 80 dL_minute_27 rfl (by decide) (fun h27 => absurd (congrArg nI (show (m + 1) % 10 = 0 by omega)) h27) (fun h27 => ?_)
        refine v_aload_n (i := 1) h 30 31 dL_minute_30 rfl rfl ld1 ?_
        refine v_bipush (v := nI 8) h 31 33 dL_minute_31 rfl (by decide) ?_
        refine v_iload (i := 4) h 33 35 dL_minute_33 rfl ld4 ?_
        refine v_imulN h 35 36 dL_minute_35 rfl ?_
        refine v_iconst (v := nI 2) h 36 37 dL_minute_36 rfl (by decide) ?_
        refine v_iaddN h 37 38 dL_minute_37 rfl ?_
        refine v_dup2 h 38 39 dL_minute_38 rfl rfl rfl ?_
        refine v_ldE h 39 40 j 2 dL_minute_39 rfl (by omega) (by omega) ?_
        simp (disch := omega) only [upd_ne, upd_self]
        refine v_aload_n (i := 1) h 40 41 dL_minute_40 rfl rfl ld1 ?_
        refine v_bipush (v := nI 8) h 41 43 dL_minute_41 rfl (by decide) ?_
        refine v_iload (i := 4) h 43 45 dL_minute_43 rfl ld4 ?_
        refine v_imulN h 45 46 dL_minute_45 rfl ?_
        refine v_iconst (v := nI 4) h 46 47 dL_minute_46 rfl (by decide) ?_
        refine v_iaddN h 47 48 dL_minute_47 rfl ?_
        refine v_ldE h 48 49 j 4 dL_minute_48 rfl (by omega) (by omega) ?_
        simp (disch := omega) only [upd_ne, upd_self]
        refine v_iconst (v := 2) h 49 50 dL_minute_49 rfl (by decide) ?_
        refine v_icmp_ge h 50 53 71 dL_minute_50 rfl (by decide) (fun h50 => ?_) (fun h50 => ?_)
        · refine v_iconst (v := 0) h 71 72 dL_minute_71 rfl (by decide) ?_
          refine v_iadd h 72 73 dL_minute_72 rfl ?_
          refine v_stE h 73 74 j 2 dL_minute_73 rfl (by omega) (by omega) ?_
          refine v_iinc (i := 4) h 74 77 dL_minute_74 rfl ld4 (by first | exact iinc1 _ | rfl) (by decide) (so4 rfl) ?_
          refine v_goto h 77 11 dL_minute_77 (by decide) ?_
          have q := ih (j + 1) (by omega)
          rw [coldS_s, ← cold1_is hIj (by omega), if_pos h50] at q
          refine V.world (congrArg (fun z => lw E B z w) ?_) (V.weakT q (And.intro rfl (And.intro rfl (And.intro rfl (And.intro rfl (And.intro rfl trivial))))))
          rw [Int32.add_zero]
          rw [upd_comm (by omega)]
        · refine v_aload_n (i := 1) h 53 54 dL_minute_53 rfl rfl ld1 ?_
          refine v_bipush (v := nI 8) h 54 56 dL_minute_54 rfl (by decide) ?_
          refine v_iload (i := 4) h 56 58 dL_minute_56 rfl ld4 ?_
          refine v_imulN h 58 59 dL_minute_58 rfl ?_
          refine v_iconst (v := nI 2) h 59 60 dL_minute_59 rfl (by decide) ?_
          refine v_iaddN h 60 61 dL_minute_60 rfl ?_
          refine v_ldE h 61 62 j 2 dL_minute_61 rfl (by omega) (by omega) ?_
          simp (disch := omega) only [upd_ne, upd_self]
          refine v_bipush (v := 20) h 62 64 dL_minute_62 rfl (by decide) ?_
          refine v_icmp_ge h 64 67 71 dL_minute_64 rfl (by decide) (fun h64 => ?_) (fun h64 => ?_)
          · refine v_iconst (v := 0) h 71 72 dL_minute_71 rfl (by decide) ?_
            refine v_iadd h 72 73 dL_minute_72 rfl ?_
            refine v_stE h 73 74 j 2 dL_minute_73 rfl (by omega) (by omega) ?_
            refine v_iinc (i := 4) h 74 77 dL_minute_74 rfl ld4 (by first | exact iinc1 _ | rfl) (by decide) (so4 rfl) ?_
            refine v_goto h 77 11 dL_minute_77 (by decide) ?_
            have q := ih (j + 1) (by omega)
            rw [coldS_s, ← cold1_is hIj (by omega), if_neg h50, if_pos h64] at q
            refine V.world (congrArg (fun z => lw E B z w) ?_) (V.weakT q (And.intro rfl (And.intro rfl (And.intro rfl (And.intro rfl (And.intro rfl trivial))))))
            rw [Int32.add_zero]
            rw [upd_comm (by omega)]
          · refine v_iconst (v := 1) h 67 68 dL_minute_67 rfl (by decide) ?_
            refine v_goto h 68 72 dL_minute_68 (by decide) ?_
            refine v_iadd h 72 73 dL_minute_72 rfl ?_
            refine v_stE h 73 74 j 2 dL_minute_73 rfl (by omega) (by omega) ?_
            refine v_iinc (i := 4) h 74 77 dL_minute_74 rfl ld4 (by first | exact iinc1 _ | rfl) (by decide) (so4 rfl) ?_
            refine v_goto h 77 11 dL_minute_77 (by decide) ?_
            have q := ih (j + 1) (by omega)
            rw [coldS_s, ← cold1_is hIj (by omega), if_neg h50, if_neg h64] at q
            refine V.world (congrArg (fun z => lw E B z w) ?_) (V.weakT q (And.intro rfl (And.intro rfl (And.intro rfl (And.intro rfl (And.intro rfl trivial))))))
            rw [upd_comm (by omega)]
    exact V.weakT (loop11 nc 0 (by omega)) (And.intro rfl (And.intro rfl (And.intro rfl (And.intro rfl (And.intro rfl trivial)))))
  · refine v_iload (i := 4) h 11 13 dL_minute_11 rfl ld4 ?_
    refine v_aload_n (i := 0) h 13 14 dL_minute_13 rfl rfl ld0 ?_
    refine v_bipush (v := nI 7) h 14 16 dL_minute_14 rfl (by decide) ?_
    refine v_ldG h 16 17 7 dL_minute_16 rfl (by omega) ?_
    simp (disch := omega) only [upd_ne, upd_self]
    rw [hI.c7]
    refine v_icmp_ge h 17 20 80 dL_minute_17 rfl (by decide) (fun h17 => ?_) (fun h17 => ?_)
    · have n17 := (nI_leI (a := nc) (b := 0) (by omega) (by omega)).mp h17
      have q := k80 (some (.int 0))
      rw [minA, if_neg e10] at q
      exact q
    · have n17 := mt (nI_leI (a := nc) (b := 0) (by omega) (by omega)).mpr h17
      refine v_aload_n (i := 0) h 20 21 dL_minute_20 rfl rfl ld0 ?_
      refine v_bipush (v := nI 9) h 21 23 dL_minute_21 rfl (by decide) ?_
      refine v_ldG h 23 24 9 dL_minute_23 rfl (by omega) ?_
      simp (disch := omega) only [upd_ne, upd_self]
      refine v_bipush (v := nI 10) h 24 26 dL_minute_24 rfl (by decide) ?_
      refine v_iremN h 26 27 dL_minute_26 rfl (by omega) (by omega) (by omega) ?_
      refine v_if_ne h 27 30 80 dL_minute_27 rfl (by decide) (fun h27 => ?_) (fun h27 => absurd (nI_inj (a := (m + 1) % 10) (b := 0) (by omega) (by omega) h27) (by omega))
      have q := k80 (some (.int 0))
      rw [minA, if_neg e10] at q
      exact q

