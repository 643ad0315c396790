/-! A TEAM'S MINUTE -/
theorem V.world {E : EE} {Γ : Cx} {k n pc : Nat} {L : Lo} {st : List Value} {w w' : Wo} (h : w = w') (kk : V E Γ k n pc L st w') : V E Γ k n pc L st w := h ▸ kk
theorem lt_nle {a b : Int32} (h : a < b) : ¬ b ≤ a := by
  rw [Int32.le_iff_toInt_le]
  rw [Int32.lt_iff_toInt_lt] at h
  omega
theorem nlt_le {a b : Int32} (h : ¬ a < b) : b ≤ a := by
  rw [Int32.le_iff_toInt_le]
  rw [Int32.lt_iff_toInt_lt] at h
  omega
theorem nle_lt {a b : Int32} (h : ¬ a ≤ b) : b < a := by
  rw [Int32.lt_iff_toInt_lt]
  rw [Int32.le_iff_toInt_le] at h
  omega
theorem le_nlt {a b : Int32} (h : a ≤ b) : ¬ b < a := by
  rw [Int32.lt_iff_toInt_lt]
  rw [Int32.le_iff_toInt_le] at h
  omega
def fin0 (S : St) (c : Nat) : St := if S (13 + 8 * c + 7) = -1 then S else if S (13 + 8 * c + 7) < S 9 + 1 then upd S 11 (S 11 + 1) else upd S 10 (S 10 + 1)
def fn1 (S : St) (c : Nat) (now : Int32) : St := upd (upd S (13 + 8 * c + 4) 2) (13 + 8 * c + 6) now
def fn2 (S : St) (t : Nat) : St := upd S (157 + (S 12).toNatClampNeg) (S (125 + 8 * t + 4))
def fn3 (S : St) : St := upd S 12 (S 12 + 1)
def fn4 (S : St) (t : Nat) : St := upd S (125 + 8 * t + 5) (S (125 + 8 * t + 5) + 1)
def fn5 (S : St) (t c : Nat) : St := upd S (125 + 8 * t + 6) (S (125 + 8 * t + 6) + S (13 + 8 * c + 1))
def fn6 (S : St) (t c : Nat) : St := upd S (125 + 8 * t + 1) (if S (125 + 8 * t + 1) + S (13 + 8 * c + 1) < 30 then S (125 + 8 * t + 1) + S (13 + 8 * c + 1) else 30)
def fn8 (S : St) (t : Nat) : St := if S (125 + 8 * t + 1) < 10 then S else upd (upd S (125 + 8 * t + 2) 3) (125 + 8 * t + 3) 5
def finS (S : St) (t c : Nat) : St := fn8 (idleS (fn6 (fn5 (fn4 (fn3 (fn2 (fn1 (fin0 S c) c (S 9 + 1)) t)) t) t c) t c) t) t
theorem fin0_ne {S : St} {c i : Nat} (h : i ≠ 10) (h2 : i ≠ 11) : fin0 S c i = S i := by
  unfold fin0
  split
  · rfl
  · split
    · rw [upd_ne _ _ h2]
    · rw [upd_ne _ _ h]

set_option maxRecDepth 100000 in
set_option maxHeartbeats 4000000 in
theorem k_finish {E : EE} {B : Nat} {S : St} {w : Wo} {t c ne : Nat} (ht : t < 4) (hc : c < 14) (e12 : S 12 = nI ne) (hne : ne < 14) : Cd E mX1_finish (pl E B S w) [.ref B, .ref (B + 18 + t), .ref (B + 3 + c)] (none) (pl E B (finS S t c) w) := by
  refine Cd.of RX1 rfl (by decide) [some (.ref B), some (.ref (B + 18 + t)), some (.ref (B + 3 + c)), none] (Nat.le_of_ble_eq_true rfl) rfl (fun Γ h f hmn => ?_)
  have hc' := hc
  have k59 : V E Γ 0 0 59 [some (.ref B), some (.ref (B + 18 + t)), some (.ref (B + 3 + c)), some (.int (S 9 + 1))] [] (pl E B (fin0 S c) w) := by
    have f : Fn E Γ mX1_finish none (pl E B (fn8 (idleS (fn6 (fn5 (fn4 (fn3 (fn2 (fn1 (fin0 S c) c (S 9 + 1)) t)) t) t c) t c) t) t) w) := f
    obtain ⟨now, hnow⟩ : ∃ z, z = S 9 + 1 := ⟨_, rfl⟩
    have e12 : fin0 S c 12 = nI ne := (fin0_ne (by omega) (by omega)).trans e12
    rw [← hnow] at f ⊢
    generalize fin0 S c = S1 at f e12 ⊢
    refine v_aload_n (i := 2) h 59 60 dX1_finish_59 rfl rfl ld2 ?_
    refine v_iconst (v := 2) h 60 61 dX1_finish_60 rfl (by decide) ?_
    refine v_putCh h 61 64 dX1_finish_61 rfl fw_X1_103 (by assumption) (by decide) ?_
    refine v_aload_n (i := 2) h 64 65 dX1_finish_64 rfl rfl ld2 ?_
    refine v_iload_n (i := 3) h 65 66 dX1_finish_65 rfl rfl ld3 ?_
    refine v_putCh h 66 69 dX1_finish_66 rfl fw_X1_153 (by assumption) (by decide) ?_
    obtain ⟨A1, hA1⟩ : ∃ z, z = fn1 S1 c now := ⟨_, rfl⟩
    refine V.world (w' := pl E B A1 w) (by rw [hA1]; rfl) ?_
    rw [← hA1] at f
    have e12 : A1 12 = nI ne := by
      rw [hA1, fn1, upd_ne _ _ (by omega), upd_ne _ _ (by omega)]
      exact e12
    refine v_aload_n (i := 0) h 69 70 dX1_finish_69 rfl rfl ld0 ?_
    refine v_get h 70 73 dX1_finish_70 rfl fo_X1_45 pl_ln rfl ?_
    refine v_if_lt h 73 76 101 dX1_finish_73 rfl (by decide) (fun h73 => absurd h73 (by rw [e12]; exact nI_pos (by omega))) (fun h73 => ?_)
    refine v_aload_n (i := 0) h 76 77 dX1_finish_76 rfl rfl ld0 ?_
    refine v_get h 77 80 dX1_finish_77 rfl fo_X1_45 pl_ln rfl ?_
    refine v_aload_n (i := 0) h 80 81 dX1_finish_80 rfl rfl ld0 ?_
    refine v_get h 81 84 dX1_finish_81 rfl fo_X1_29 pl_ln rfl ?_
    refine v_alen h 84 85 0 dX1_finish_84 rfl pl_em rfl (v := nI 14) rfl ?_
    refine v_icmp_ge h 85 88 101 dX1_finish_85 rfl (by decide) (fun h85 => absurd h85 (by rw [e12]; exact nI_ge hne (by decide))) (fun h85 => ?_)
    refine v_aload_n (i := 0) h 88 89 dX1_finish_88 rfl rfl ld0 ?_
    refine v_get h 89 92 dX1_finish_89 rfl fo_X1_29 pl_ln rfl ?_
    refine v_aload_n (i := 0) h 92 93 dX1_finish_92 rfl rfl ld0 ?_
    refine v_get h 93 96 dX1_finish_93 rfl fo_X1_45 pl_ln rfl ?_
    rw [e12]
    refine v_aload_n (i := 1) h 96 97 dX1_finish_96 rfl rfl ld1 ?_
    refine v_get h 97 100 dX1_finish_97 rfl fo_X1_122 (pl_tm ht) rfl ?_
    refine v_istE h 100 101 _ dX1_finish_100 rfl (by omega) ?_
    obtain ⟨A2, hA2⟩ : ∃ z, z = fn2 A1 t := ⟨_, rfl⟩
    refine V.world (w' := pl E B A2 w) (by rw [hA2, fn2, e12, nI_clamp (by omega)]) ?_
    rw [← hA2] at f
    refine v_aload_n (i := 0) h 101 102 dX1_finish_101 rfl rfl ld0 ?_
    refine v_dup h 102 103 dX1_finish_102 rfl rfl ?_
    refine v_get h 103 106 dX1_finish_103 rfl fo_X1_45 pl_ln rfl ?_
    refine v_iconst (v := 1) h 106 107 dX1_finish_106 rfl (by decide) ?_
    refine v_iadd h 107 108 dX1_finish_107 rfl ?_
    refine v_putLn h 108 111 12 dX1_finish_108 rfl fw_X1_45 rfl (by decide) ?_
    obtain ⟨A3, hA3⟩ : ∃ z, z = fn3 A2 := ⟨_, rfl⟩
    refine V.world (w' := pl E B A3 w) (by rw [hA3]; rfl) ?_
    rw [← hA3] at f
    refine v_aload_n (i := 1) h 111 112 dX1_finish_111 rfl rfl ld1 ?_
    refine v_dup h 112 113 dX1_finish_112 rfl rfl ?_
    refine v_get h 113 116 dX1_finish_113 rfl fo_X1_154 (pl_tm ht) rfl ?_
    refine v_iconst (v := 1) h 116 117 dX1_finish_116 rfl (by decide) ?_
    refine v_iadd h 117 118 dX1_finish_117 rfl ?_
    refine v_putTm h 118 121 dX1_finish_118 rfl fw_X1_154 (by assumption) (by decide) ?_
    obtain ⟨A4, hA4⟩ : ∃ z, z = fn4 A3 t := ⟨_, rfl⟩
    refine V.world (w' := pl E B A4 w) (by rw [hA4]; rfl) ?_
    rw [← hA4] at f
    refine v_aload_n (i := 1) h 121 122 dX1_finish_121 rfl rfl ld1 ?_
    refine v_dup h 122 123 dX1_finish_122 rfl rfl ?_
    refine v_get h 123 126 dX1_finish_123 rfl fo_X1_156 (pl_tm ht) rfl ?_
    refine v_aload_n (i := 2) h 126 127 dX1_finish_126 rfl rfl ld2 ?_
    refine v_get h 127 130 dX1_finish_127 rfl fo_X1_159 (pl_ch hc) rfl ?_
    refine v_iadd h 130 131 dX1_finish_130 rfl ?_
    refine v_putTm h 131 134 dX1_finish_131 rfl fw_X1_156 (by assumption) (by decide) ?_
    obtain ⟨A5, hA5⟩ : ∃ z, z = fn5 A4 t c := ⟨_, rfl⟩
    refine V.world (w' := pl E B A5 w) (by rw [hA5]; rfl) ?_
    rw [← hA5] at f
    refine v_aload_n (i := 1) h 134 135 dX1_finish_134 rfl rfl ld1 ?_
    refine v_bipush (v := 30) h 135 137 dX1_finish_135 rfl (by decide) ?_
    refine v_aload_n (i := 1) h 137 138 dX1_finish_137 rfl rfl ld1 ?_
    refine v_get h 138 141 dX1_finish_138 rfl fo_X1_119 (pl_tm ht) rfl ?_
    refine v_aload_n (i := 2) h 141 142 dX1_finish_141 rfl rfl ld2 ?_
    refine v_get h 142 145 dX1_finish_142 rfl fo_X1_159 (pl_ch hc) rfl ?_
    refine v_iadd h 145 146 dX1_finish_145 rfl ?_
    refine v_mmin h 146 149 dX1_finish_146 rfl lk_X1_75 ⟨Nat.zero_le _, Nat.zero_le _⟩ (by decide) (Nat.le_of_ble_eq_true rfl) ?_
    refine v_putTm h 149 152 dX1_finish_149 rfl fw_X1_119 (by assumption) (by decide) ?_
    obtain ⟨A6, hA6⟩ : ∃ z, z = fn6 A5 t c := ⟨_, rfl⟩
    refine V.world (w' := pl E B A6 w) (by rw [hA6]; rfl) ?_
    rw [← hA6] at f
    refine v_aload_n (i := 1) h 152 153 dX1_finish_152 rfl rfl ld1 ?_
    refine v_callV0 h 153 156 dX1_finish_153 rfl cb_X2_beIdle cv_X2_beIdle (pl_tm ht) lk_X1_116 (rok (by decide) (by decide)) ⟨rfl, rfl⟩ ⟨Nat.zero_le _, Nat.zero_le _⟩ (k_beIdle ht) rfl rfl (Nat.le_of_ble_eq_true rfl) ?_
    obtain ⟨A7, hA7⟩ : ∃ z, z = idleS A6 t := ⟨_, rfl⟩
    rw [← hA7] at f ⊢
    refine v_aload_n (i := 1) h 156 157 dX1_finish_156 rfl rfl ld1 ?_
    refine v_get h 157 160 dX1_finish_157 rfl fo_X1_119 (pl_tm ht) rfl ?_
    refine v_bipush (v := 10) h 160 162 dX1_finish_160 rfl (by decide) ?_
    refine v_icmp_lt h 162 165 175 dX1_finish_162 rfl (by decide) (fun h162 => ?_) (fun h162 => ?_)
    · refine v_ret h 175 f dX1_finish_175 rfl (Nat.zero_le _) (Nat.zero_le _) ?_ ?_
      · rfl
      · rw [fn8, if_pos h162]
    · refine v_aload_n (i := 1) h 165 166 dX1_finish_165 rfl rfl ld1 ?_
      refine v_iconst (v := 3) h 166 167 dX1_finish_166 rfl (by decide) ?_
      refine v_putTm h 167 170 dX1_finish_167 rfl fw_X1_109 (by assumption) (by decide) ?_
      refine v_aload_n (i := 1) h 170 171 dX1_finish_170 rfl rfl ld1 ?_
      refine v_iconst (v := 5) h 171 172 dX1_finish_171 rfl (by decide) ?_
      refine v_putTm h 172 175 dX1_finish_172 rfl fw_X1_113 (by assumption) (by decide) ?_
      refine v_ret h 175 f dX1_finish_175 rfl (Nat.zero_le _) (Nat.zero_le _) ?_ ?_
      · rfl
      · rw [fn8, if_neg h162]
  refine v_aload_n (i := 0) h 0 1 dX1_finish_0 rfl rfl ld0 ?_
  refine v_get h 1 4 dX1_finish_1 rfl fo_X1_36 pl_ln rfl ?_
  refine v_iconst (v := 1) h 4 5 dX1_finish_4 rfl (by decide) ?_
  refine v_iadd h 5 6 dX1_finish_5 rfl ?_
  refine v_istore_n (i := 3) h 6 7 dX1_finish_6 rfl rfl (by decide) (so3 rfl) ?_
  refine v_aload_n (i := 2) h 7 8 dX1_finish_7 rfl rfl ld2 ?_
  refine v_get h 8 11 dX1_finish_8 rfl fo_X1_150 (pl_ch hc) rfl ?_
  refine v_iconst (v := (-1)) h 11 12 dX1_finish_11 rfl (by decide) ?_
  refine v_icmp_eq h 12 15 33 dX1_finish_12 rfl (by decide) (fun h12 => ?_) (fun h12 => ?_)
  · refine v_aload_n (i := 2) h 33 34 dX1_finish_33 rfl rfl ld2 ?_
    refine v_get h 34 37 dX1_finish_34 rfl fo_X1_150 (pl_ch hc) rfl ?_
    refine v_iconst (v := (-1)) h 37 38 dX1_finish_37 rfl (by decide) ?_
    refine v_icmp_eq h 38 41 59 dX1_finish_38 rfl (by decide) (fun h38 => ?_) (fun h38 => absurd h12 h38)
    rw [fin0, if_pos h12] at k59
    exact k59
  · refine v_iload_n (i := 3) h 15 16 dX1_finish_15 rfl rfl ld3 ?_
    refine v_aload_n (i := 2) h 16 17 dX1_finish_16 rfl rfl ld2 ?_
    refine v_get h 17 20 dX1_finish_17 rfl fo_X1_150 (pl_ch hc) rfl ?_
    refine v_icmp_gt h 20 23 33 dX1_finish_20 rfl (by decide) (fun h20 => ?_) (fun h20 => ?_)
    · refine v_aload_n (i := 2) h 33 34 dX1_finish_33 rfl rfl ld2 ?_
      refine v_get h 34 37 dX1_finish_34 rfl fo_X1_150 (pl_ch hc) rfl ?_
      refine v_iconst (v := (-1)) h 37 38 dX1_finish_37 rfl (by decide) ?_
      refine v_icmp_eq h 38 41 59 dX1_finish_38 rfl (by decide) (fun h38 => absurd h38 h12) (fun h38 => ?_)
      refine v_iload_n (i := 3) h 41 42 dX1_finish_41 rfl rfl ld3 ?_
      refine v_aload_n (i := 2) h 42 43 dX1_finish_42 rfl rfl ld2 ?_
      refine v_get h 43 46 dX1_finish_43 rfl fo_X1_150 (pl_ch hc) rfl ?_
      refine v_icmp_le h 46 49 59 dX1_finish_46 rfl (by decide) (fun h46 => absurd h46 (lt_nle h20)) (fun h46 => ?_)
      refine v_aload_n (i := 0) h 49 50 dX1_finish_49 rfl rfl ld0 ?_
      refine v_dup h 50 51 dX1_finish_50 rfl rfl ?_
      refine v_get h 51 54 dX1_finish_51 rfl fo_X1_51 pl_ln rfl ?_
      refine v_iconst (v := 1) h 54 55 dX1_finish_54 rfl (by decide) ?_
      refine v_iadd h 55 56 dX1_finish_55 rfl ?_
      refine v_putLn h 56 59 11 dX1_finish_56 rfl fw_X1_51 rfl (by decide) ?_
      rw [fin0, if_neg h12, if_pos h20] at k59
      exact k59
    · refine v_aload_n (i := 0) h 23 24 dX1_finish_23 rfl rfl ld0 ?_
      refine v_dup h 24 25 dX1_finish_24 rfl rfl ?_
      refine v_get h 25 28 dX1_finish_25 rfl fo_X1_48 pl_ln rfl ?_
      refine v_iconst (v := 1) h 28 29 dX1_finish_28 rfl (by decide) ?_
      refine v_iadd h 29 30 dX1_finish_29 rfl ?_
      refine v_putLn h 30 33 10 dX1_finish_30 rfl fw_X1_48 rfl (by decide) ?_
      refine v_aload_n (i := 2) h 33 34 dX1_finish_33 rfl rfl ld2 ?_
      refine v_get h 34 37 dX1_finish_34 rfl fo_X1_150 (pl_ch hc) rfl ?_
      refine v_iconst (v := (-1)) h 37 38 dX1_finish_37 rfl (by decide) ?_
      refine v_icmp_eq h 38 41 59 dX1_finish_38 rfl (by decide) (fun h38 => absurd (by rwa [upd_ne _ _ (by omega)] at h38) h12) (fun h38 => ?_)
      refine v_iload_n (i := 3) h 41 42 dX1_finish_41 rfl rfl ld3 ?_
      refine v_aload_n (i := 2) h 42 43 dX1_finish_42 rfl rfl ld2 ?_
      refine v_get h 43 46 dX1_finish_43 rfl fo_X1_150 (pl_ch hc) rfl ?_
      refine v_icmp_le h 46 49 59 dX1_finish_46 rfl (by decide) (fun h46 => ?_) (fun h46 => absurd (by rw [upd_ne _ _ (by omega)]; exact nlt_le h20) h46)
      rw [fin0, if_neg h12, if_neg h20] at k59
      exact k59

def cnt (x : Int32) : Nat := x.toNatClampNeg
def go1 (S : St) (t : Nat) : St := if S (125 + 8 * t + 2) = 1 then upd S (125 + 8 * t + 7) (S (125 + 8 * t + 7) + 1) else S
def go2 (S : St) (t : Nat) : St := upd S (125 + 8 * t + 3) (S (125 + 8 * t + 3) - 1)
def restS (S : St) (t : Nat) : St := upd (idleS S t) (125 + 8 * t + 1) (if 0 < idleS S t (125 + 8 * t + 1) - 6 then idleS S t (125 + 8 * t + 1) - 6 else 0)
def go3 (S : St) (nt t : Nat) : St := if S (125 + 8 * t + 3) ≤ 0 then (if S (125 + 8 * t + 2) = 3 then restS S t else if S (125 + 8 * t + 2) = 1 then bringS S nt t (cnt (S (125 + 8 * t + 4))) (nI t) else finS S t (cnt (S (125 + 8 * t + 4)))) else S
def goS (S : St) (nt t : Nat) : St := if S (125 + 8 * t + 2) = 0 then S else go3 (go2 (go1 S t) t) nt t
theorem go1_ne {S : St} {t i : Nat} (h : i ≠ 125 + 8 * t + 7) : go1 S t i = S i := by
  unfold go1
  split
  · rw [upd_ne _ _ h]
  · rfl
theorem go12_ne {S : St} {t i : Nat} (h : i ≠ 125 + 8 * t + 7) (h2 : i ≠ 125 + 8 * t + 3) : go2 (go1 S t) t i = S i := by
  unfold go2
  rw [upd_ne _ _ h2, go1_ne h]
def takS (S : St) (t c : Nat) : St := upd (upd (upd S (13 + 8 * c + 4) 1) (13 + 8 * c + 5) (nI t)) (125 + 8 * t + 4) (nI c)
def tak2 (S : St) (nt t c : Nat) : St := if wayV S (S (125 + 8 * t + 0)) (S (13 + 8 * c + 0)) = 0 then bringS S nt t c (nI t) else upd (upd S (125 + 8 * t + 2) 1) (125 + 8 * t + 3) (wayV S (S (125 + 8 * t + 0)) (S (13 + 8 * c + 0)))
def takeS (S : St) (nc nt t : Nat) : St := if S (125 + 8 * t + 2) = 0 then (if (chs S (S (125 + 8 * t + 0)) nc).1 = -1 then S else tak2 (takS S t (cnt (chs S (S (125 + 8 * t + 0)) nc).1)) nt t (cnt (chs S (S (125 + 8 * t + 0)) nc).1)) else S
theorem nI_ne_m1 {c : Nat} (h : c < 2 ^ 31) : ¬ nI c = -1 := by
  intro e
  have := congrArg Int32.toInt e
  rw [nI_toInt h] at this
  rw [show (-1 : Int32).toInt = -1 from rfl] at this
  omega
theorem chs_in (S : St) (x : Int32) : ∀ n, n < 2 ^ 31 → (chs S x n).1 = -1 ∨ ∃ c, c < n ∧ (chs S x n).1 = nI c ∧ S (13 + 8 * c + 4) = 0 := by
  intro n
  induction n with
  | zero => intro _; exact Or.inl rfl
  | succ n ih =>
    intro hn
    have old : (chs S x n).1 = -1 ∨ ∃ c, c < n + 1 ∧ (chs S x n).1 = nI c ∧ S (13 + 8 * c + 4) = 0 := by
      rcases ih (by omega) with h | ⟨c, h1, h2, h3⟩
      · exact Or.inl h
      · exact Or.inr ⟨c, by omega, h2, h3⟩
    rw [chs_succ]
    by_cases h4 : S (13 + 8 * n + 4) = 0
    · rw [if_pos h4]
      have new : (nI n, rkS S n, wayV S x (S (13 + 8 * n + 0))).1 = -1 ∨ ∃ c, c < n + 1 ∧ (nI n, rkS S n, wayV S x (S (13 + 8 * n + 0))).1 = nI c ∧ S (13 + 8 * c + 4) = 0 := Or.inr ⟨n, by omega, rfl, h4⟩
      repeat' split
      all_goals first | exact new | exact old
    · rw [if_neg h4]
      exact old
set_option maxRecDepth 100000 in
set_option maxHeartbeats 4000000 in
theorem k_goOn0 {E : EE} {B : Nat} {S : St} {w : Wo} {t nt : Nat} (e8 : S 8 = nI nt) (hmt : nt ≤ 4) (ht : t < nt) (hz : S (125 + 8 * t + 2) = 0) : Cd E mX1_goOn (pl E B S w) [.ref B, .int (nI t)] (none) (pl E B S w) := by
  refine Cd.of RX1 rfl (by decide) [some (.ref B), some (.int (nI t)), none, none] (Nat.le_of_ble_eq_true rfl) rfl (fun Γ h f hmn => ?_)
  have ht4 : t < 4 := by omega
  refine v_aload_n (i := 0) h 0 1 dX1_goOn_0 rfl rfl ld0 ?_
  refine v_iload_n (i := 1) h 1 2 dX1_goOn_1 rfl rfl ld1 ?_
  refine v_callV1 h 2 5 dX1_goOn_2 rfl cb_X1_teamAt cv_X1_teamAt pl_ln lk_X1_62 (rok (by decide) (by decide)) ⟨rfl, rfl⟩ ⟨Nat.zero_le _, Nat.zero_le _⟩ (k_teamS e8 hmt ht) rfl rfl (Nat.le_of_ble_eq_true rfl) ?_
  refine v_astore_n (i := 2) h 5 6 dX1_goOn_5 rfl rfl (by decide) (so2 rfl) ?_
  refine v_aload_n (i := 2) h 6 7 dX1_goOn_6 rfl rfl ld2 ?_
  refine v_ifnull h 7 10 dX1_goOn_7 rfl ?_
  refine v_aload_n (i := 2) h 10 11 dX1_goOn_10 rfl rfl ld2 ?_
  refine v_get h 11 14 dX1_goOn_11 rfl fo_X1_109 (pl_tm ht4) rfl ?_
  refine v_if_ne h 14 17 18 dX1_goOn_14 rfl (by decide) (fun h14 => absurd hz h14) (fun h14 => ?_)
  exact v_ret h 17 f dX1_goOn_17 rfl (Nat.zero_le _) (Nat.zero_le _) rfl rfl

set_option maxRecDepth 100000 in
set_option maxHeartbeats 4000000 in
theorem k_goOn1 {E : EE} {B : Nat} {S : St} {w : Wo} {t nc nt ne : Nat} (e7 : S 7 = nI nc) (hm : nc ≤ 14) (e8 : S 8 = nI nt) (hmt : nt ≤ 4) (ht : t < nt) (e12 : S 12 = nI ne) (hv : ¬ S (125 + 8 * t + 2) = 0 → ¬ S (125 + 8 * t + 2) = 3 → ∃ c, c < nc ∧ S (125 + 8 * t + 4) = nI c ∧ ne < 14) (hz : ¬ S (125 + 8 * t + 2) = 0) : Cd E mX1_goOn (pl E B S w) [.ref B, .int (nI t)] (none) (pl E B (goS S nt t) w) := by
  refine Cd.of RX1 rfl (by decide) [some (.ref B), some (.int (nI t)), none, none] (Nat.le_of_ble_eq_true rfl) rfl (fun Γ h f hmn => ?_)
  have ht4 : t < 4 := by omega
  have k46 : V E Γ 0 0 46 [some (.ref B), some (.int (nI t)), some (.ref (B + 18 + t)), none] [] (pl E B (go2 (go1 S t) t) w) := by
    have hcv : ¬ S (125 + 8 * t + 2) = 3 → ∃ c, c < nc ∧ go2 (go1 S t) t (125 + 8 * t + 4) = nI c ∧ ne < 14 := by
      intro h3
      obtain ⟨c, hc, hce, hne⟩ := hv hz h3
      exact ⟨c, hc, (go12_ne (by omega) (by omega)).trans hce, hne⟩
    have f : Fn E Γ mX1_goOn none (pl E B (go3 (go2 (go1 S t) t) nt t) w) := by
      unfold goS at f
      rwa [if_neg hz] at f
    have d2 : go2 (go1 S t) t (125 + 8 * t + 2) = S (125 + 8 * t + 2) := go12_ne (by omega) (by omega)
    rw [← d2] at hcv
    have e7 : go2 (go1 S t) t 7 = nI nc := (go12_ne (by omega) (by omega)).trans e7
    have e8 : go2 (go1 S t) t 8 = nI nt := (go12_ne (by omega) (by omega)).trans e8
    have e12 : go2 (go1 S t) t 12 = nI ne := (go12_ne (by omega) (by omega)).trans e12
    clear d2
    generalize go2 (go1 S t) t = S1 at f hcv e7 e8 e12 ⊢
    refine v_aload_n (i := 2) h 46 47 dX1_goOn_46 rfl rfl ld2 ?_
    refine v_get h 47 50 dX1_goOn_47 rfl fo_X1_113 (pl_tm ht4) rfl ?_
    refine v_if_le h 50 53 54 dX1_goOn_50 rfl (by decide) (fun h50 => ?_) (fun h50 => ?_)
    · refine v_aload_n (i := 2) h 54 55 dX1_goOn_54 rfl rfl ld2 ?_
      refine v_get h 55 58 dX1_goOn_55 rfl fo_X1_109 (pl_tm ht4) rfl ?_
      refine v_iconst (v := 3) h 58 59 dX1_goOn_58 rfl (by decide) ?_
      refine v_icmp_ne h 59 62 82 dX1_goOn_59 rfl (by decide) (fun h59 => ?_) (fun h59 => ?_)
      · obtain ⟨c, hc1, hce, hne⟩ := hcv h59
        have hc : c < 14 := by omega
        refine v_aload_n (i := 0) h 82 83 dX1_goOn_82 rfl rfl ld0 ?_
        refine v_aload_n (i := 2) h 83 84 dX1_goOn_83 rfl rfl ld2 ?_
        refine v_get h 84 87 dX1_goOn_84 rfl fo_X1_122 (pl_tm ht4) rfl ?_
        rw [hce]
        refine v_callV1 h 87 90 dX1_goOn_87 rfl cb_X1_chairAt cv_X1_chairAt pl_ln lk_X1_54 (rok (by decide) (by decide)) ⟨rfl, rfl⟩ ⟨Nat.zero_le _, Nat.zero_le _⟩ (k_chairS e7 hm hc1) rfl rfl (Nat.le_of_ble_eq_true rfl) ?_
        refine v_astore_n (i := 3) h 90 91 dX1_goOn_90 rfl rfl (by decide) (so3 rfl) ?_
        refine v_aload_n (i := 3) h 91 92 dX1_goOn_91 rfl rfl ld3 ?_
        refine v_ifnonnull h 92 96 dX1_goOn_92 (by decide) ?_
        refine v_aload_n (i := 2) h 96 97 dX1_goOn_96 rfl rfl ld2 ?_
        refine v_get h 97 100 dX1_goOn_97 rfl fo_X1_109 (pl_tm ht4) rfl ?_
        refine v_iconst (v := 1) h 100 101 dX1_goOn_100 rfl (by decide) ?_
        refine v_icmp_ne h 101 104 114 dX1_goOn_101 rfl (by decide) (fun h101 => ?_) (fun h101 => ?_)
        · refine v_aload_n (i := 0) h 114 115 dX1_goOn_114 rfl rfl ld0 ?_
          refine v_aload_n (i := 2) h 115 116 dX1_goOn_115 rfl rfl ld2 ?_
          refine v_aload_n (i := 3) h 116 117 dX1_goOn_116 rfl rfl ld3 ?_
          refine v_callV0 h 117 120 dX1_goOn_117 rfl cb_X1_finish cv_X1_finish pl_ln lk_X1_129 (rok (by decide) (by decide)) ⟨rfl, rfl⟩ ⟨Nat.zero_le _, Nat.zero_le _⟩ (k_finish ht4 hc e12 hne) rfl rfl (Nat.le_of_ble_eq_true rfl) ?_
          refine v_ret h 120 f dX1_goOn_120 rfl (Nat.zero_le _) (Nat.zero_le _) ?_ ?_
          · rfl
          · rw [go3, if_pos h50, if_neg h59, if_neg h101, hce, cnt, nI_clamp (by omega)]
        · refine v_aload_n (i := 0) h 104 105 dX1_goOn_104 rfl rfl ld0 ?_
          refine v_iload_n (i := 1) h 105 106 dX1_goOn_105 rfl rfl ld1 ?_
          refine v_aload_n (i := 2) h 106 107 dX1_goOn_106 rfl rfl ld2 ?_
          refine v_aload_n (i := 3) h 107 108 dX1_goOn_107 rfl rfl ld3 ?_
          refine v_callV0 h 108 111 dX1_goOn_108 rfl cb_X1_bringDown cv_X1_bringDown pl_ln lk_X1_125 (rok (by decide) (by decide)) ⟨rfl, rfl⟩ ⟨Nat.zero_le _, Nat.zero_le _⟩ (k_bringDown e8 hmt ht4 hc (nI t)) rfl rfl (Nat.le_of_ble_eq_true rfl) ?_
          refine v_goto h 111 120 dX1_goOn_111 (by decide) ?_
          refine v_ret h 120 f dX1_goOn_120 rfl (Nat.zero_le _) (Nat.zero_le _) ?_ ?_
          · rfl
          · rw [go3, if_pos h50, if_neg h59, if_pos h101, hce, cnt, nI_clamp (by omega)]
      · refine v_aload_n (i := 2) h 62 63 dX1_goOn_62 rfl rfl ld2 ?_
        refine v_callV0 h 63 66 dX1_goOn_63 rfl cb_X2_beIdle cv_X2_beIdle (pl_tm ht4) lk_X1_116 (rok (by decide) (by decide)) ⟨rfl, rfl⟩ ⟨Nat.zero_le _, Nat.zero_le _⟩ (k_beIdle ht4) rfl rfl (Nat.le_of_ble_eq_true rfl) ?_
        refine v_aload_n (i := 2) h 66 67 dX1_goOn_66 rfl rfl ld2 ?_
        refine v_iconst (v := 0) h 67 68 dX1_goOn_67 rfl (by decide) ?_
        refine v_aload_n (i := 2) h 68 69 dX1_goOn_68 rfl rfl ld2 ?_
        refine v_get h 69 72 dX1_goOn_69 rfl fo_X1_119 (pl_tm ht4) rfl ?_
        refine v_bipush (v := 6) h 72 74 dX1_goOn_72 rfl (by decide) ?_
        refine v_isub h 74 75 dX1_goOn_74 rfl ?_
        refine v_mmax h 75 78 dX1_goOn_75 rfl lk_X1_69 ⟨Nat.zero_le _, Nat.zero_le _⟩ (by decide) (Nat.le_of_ble_eq_true rfl) ?_
        refine v_putTm h 78 81 dX1_goOn_78 rfl fw_X1_119 ht4 (by decide) ?_
        refine v_ret h 81 f dX1_goOn_81 rfl (Nat.zero_le _) (Nat.zero_le _) ?_ ?_
        · rfl
        · rw [go3, if_pos h50, if_pos h59]; rfl
    · refine v_ret h 53 f dX1_goOn_53 rfl (Nat.zero_le _) (Nat.zero_le _) ?_ ?_
      · rfl
      · rw [go3, if_neg h50]
  refine v_aload_n (i := 0) h 0 1 dX1_goOn_0 rfl rfl ld0 ?_
  refine v_iload_n (i := 1) h 1 2 dX1_goOn_1 rfl rfl ld1 ?_
  refine v_callV1 h 2 5 dX1_goOn_2 rfl cb_X1_teamAt cv_X1_teamAt pl_ln lk_X1_62 (rok (by decide) (by decide)) ⟨rfl, rfl⟩ ⟨Nat.zero_le _, Nat.zero_le _⟩ (k_teamS e8 hmt ht) rfl rfl (Nat.le_of_ble_eq_true rfl) ?_
  refine v_astore_n (i := 2) h 5 6 dX1_goOn_5 rfl rfl (by decide) (so2 rfl) ?_
  refine v_aload_n (i := 2) h 6 7 dX1_goOn_6 rfl rfl ld2 ?_
  refine v_ifnull h 7 10 dX1_goOn_7 rfl ?_
  refine v_aload_n (i := 2) h 10 11 dX1_goOn_10 rfl rfl ld2 ?_
  refine v_get h 11 14 dX1_goOn_11 rfl fo_X1_109 (pl_tm ht4) rfl ?_
  refine v_if_ne h 14 17 18 dX1_goOn_14 rfl (by decide) (fun h14 => ?_) (fun h14 => absurd h14 hz)
  refine v_aload_n (i := 2) h 18 19 dX1_goOn_18 rfl rfl ld2 ?_
  refine v_get h 19 22 dX1_goOn_19 rfl fo_X1_109 (pl_tm ht4) rfl ?_
  refine v_iconst (v := 1) h 22 23 dX1_goOn_22 rfl (by decide) ?_
  refine v_icmp_ne h 23 26 36 dX1_goOn_23 rfl (by decide) (fun h23 => ?_) (fun h23 => ?_)
  · refine v_aload_n (i := 2) h 36 37 dX1_goOn_36 rfl rfl ld2 ?_
    refine v_dup h 37 38 dX1_goOn_37 rfl rfl ?_
    refine v_get h 38 41 dX1_goOn_38 rfl fo_X1_113 (pl_tm ht4) rfl ?_
    refine v_iconst (v := 1) h 41 42 dX1_goOn_41 rfl (by decide) ?_
    refine v_isub h 42 43 dX1_goOn_42 rfl ?_
    refine v_putTm h 43 46 dX1_goOn_43 rfl fw_X1_113 (by assumption) (by decide) ?_
    have q : V E Γ 0 0 46 [some (.ref B), some (.int (nI t)), some (.ref (B + 18 + t)), none] [] (pl E B (go2 (go1 S t) t) w) := k46
    rw [go1, if_neg h23] at q
    exact q
  · refine v_aload_n (i := 2) h 26 27 dX1_goOn_26 rfl rfl ld2 ?_
    refine v_dup h 27 28 dX1_goOn_27 rfl rfl ?_
    refine v_get h 28 31 dX1_goOn_28 rfl fo_X1_110 (pl_tm ht4) rfl ?_
    refine v_iconst (v := 1) h 31 32 dX1_goOn_31 rfl (by decide) ?_
    refine v_iadd h 32 33 dX1_goOn_32 rfl ?_
    refine v_putTm h 33 36 dX1_goOn_33 rfl fw_X1_110 (by assumption) (by decide) ?_
    refine v_aload_n (i := 2) h 36 37 dX1_goOn_36 rfl rfl ld2 ?_
    refine v_dup h 37 38 dX1_goOn_37 rfl rfl ?_
    refine v_get h 38 41 dX1_goOn_38 rfl fo_X1_113 (pl_tm ht4) rfl ?_
    refine v_iconst (v := 1) h 41 42 dX1_goOn_41 rfl (by decide) ?_
    refine v_isub h 42 43 dX1_goOn_42 rfl ?_
    refine v_putTm h 43 46 dX1_goOn_43 rfl fw_X1_113 (by assumption) (by decide) ?_
    have q : V E Γ 0 0 46 [some (.ref B), some (.int (nI t)), some (.ref (B + 18 + t)), none] [] (pl E B (go2 (go1 S t) t) w) := k46
    rw [go1, if_pos h23] at q
    exact q

theorem k_goOn {E : EE} {B : Nat} {S : St} {w : Wo} {t nc nt ne : Nat} (e7 : S 7 = nI nc) (hm : nc ≤ 14) (e8 : S 8 = nI nt) (hmt : nt ≤ 4) (ht : t < nt) (e12 : S 12 = nI ne) (hv : ¬ S (125 + 8 * t + 2) = 0 → ¬ S (125 + 8 * t + 2) = 3 → ∃ c, c < nc ∧ S (125 + 8 * t + 4) = nI c ∧ ne < 14) : Cd E mX1_goOn (pl E B S w) [.ref B, .int (nI t)] none (pl E B (goS S nt t) w) := by
  by_cases hz : S (125 + 8 * t + 2) = 0
  · have h := k_goOn0 (E := E) (B := B) (S := S) (w := w) e8 hmt ht hz
    rw [goS, if_pos hz]
    exact h
  · exact k_goOn1 e7 hm e8 hmt ht e12 hv hz
set_option maxRecDepth 100000 in
set_option maxHeartbeats 4000000 in
theorem k_takeN {E : EE} {B : Nat} {S : St} {w : Wo} {t nt : Nat} (e8 : S 8 = nI nt) (hmt : nt ≤ 4) (ht : t < nt) (hz : ¬ S (125 + 8 * t + 2) = 0) : Cd E mX1_takeChair (pl E B S w) [.ref B, .int (nI t)] (none) (pl E B S w) := by
  refine Cd.of RX1 rfl (by decide) [some (.ref B), some (.int (nI t)), none, none, none, none] (Nat.le_of_ble_eq_true rfl) rfl (fun Γ h f hmn => ?_)
  have ht4 : t < 4 := by omega
  refine v_aload_n (i := 0) h 0 1 dX1_takeChair_0 rfl rfl ld0 ?_
  refine v_iload_n (i := 1) h 1 2 dX1_takeChair_1 rfl rfl ld1 ?_
  refine v_callV1 h 2 5 dX1_takeChair_2 rfl cb_X1_teamAt cv_X1_teamAt pl_ln lk_X1_62 (rok (by decide) (by decide)) ⟨rfl, rfl⟩ ⟨Nat.zero_le _, Nat.zero_le _⟩ (k_teamS e8 hmt ht) rfl rfl (Nat.le_of_ble_eq_true rfl) ?_
  refine v_astore_n (i := 2) h 5 6 dX1_takeChair_5 rfl rfl (by decide) (so2 rfl) ?_
  refine v_aload_n (i := 2) h 6 7 dX1_takeChair_6 rfl rfl ld2 ?_
  refine v_ifnull h 7 10 dX1_takeChair_7 rfl ?_
  refine v_aload_n (i := 2) h 10 11 dX1_takeChair_10 rfl rfl ld2 ?_
  refine v_get h 11 14 dX1_takeChair_11 rfl fo_X1_109 (pl_tm ht4) rfl ?_
  refine v_if_eq h 14 17 18 dX1_takeChair_14 rfl (by decide) (fun h14 => absurd h14 hz) (fun h14 => ?_)
  exact v_ret h 17 f dX1_takeChair_17 rfl (Nat.zero_le _) (Nat.zero_le _) rfl rfl

set_option maxRecDepth 100000 in
set_option maxHeartbeats 4000000 in
theorem k_take0 {E : EE} {B : Nat} {S : St} {w : Wo} {t nc nt : Nat} (e7 : S 7 = nI nc) (hm : nc ≤ 14) (e8 : S 8 = nI nt) (hmt : nt ≤ 4) (ht : t < nt) (hx : InS (S (125 + 8 * t + 0))) (hs : ∀ c, c < nc → InS (S (13 + 8 * c + 0))) (hz : S (125 + 8 * t + 2) = 0) (hp : (chs S (S (125 + 8 * t + 0)) nc).1 = -1) : Cd E mX1_takeChair (pl E B S w) [.ref B, .int (nI t)] (none) (pl E B S w) := by
  refine Cd.of RX1 rfl (by decide) [some (.ref B), some (.int (nI t)), none, none, none, none] (Nat.le_of_ble_eq_true rfl) rfl (fun Γ h f hmn => ?_)
  have ht4 : t < 4 := by omega
  refine v_aload_n (i := 0) h 0 1 dX1_takeChair_0 rfl rfl ld0 ?_
  refine v_iload_n (i := 1) h 1 2 dX1_takeChair_1 rfl rfl ld1 ?_
  refine v_callV1 h 2 5 dX1_takeChair_2 rfl cb_X1_teamAt cv_X1_teamAt pl_ln lk_X1_62 (rok (by decide) (by decide)) ⟨rfl, rfl⟩ ⟨Nat.zero_le _, Nat.zero_le _⟩ (k_teamS e8 hmt ht) rfl rfl (Nat.le_of_ble_eq_true rfl) ?_
  refine v_astore_n (i := 2) h 5 6 dX1_takeChair_5 rfl rfl (by decide) (so2 rfl) ?_
  refine v_aload_n (i := 2) h 6 7 dX1_takeChair_6 rfl rfl ld2 ?_
  refine v_ifnull h 7 10 dX1_takeChair_7 rfl ?_
  refine v_aload_n (i := 2) h 10 11 dX1_takeChair_10 rfl rfl ld2 ?_
  refine v_get h 11 14 dX1_takeChair_11 rfl fo_X1_109 (pl_tm ht4) rfl ?_
  refine v_if_eq h 14 17 18 dX1_takeChair_14 rfl (by decide) (fun h14 => ?_) (fun h14 => absurd hz h14)
  refine v_aload_n (i := 0) h 18 19 dX1_takeChair_18 rfl rfl ld0 ?_
  refine v_aload_n (i := 2) h 19 20 dX1_takeChair_19 rfl rfl ld2 ?_
  refine v_get h 20 23 dX1_takeChair_20 rfl fo_X1_133 (pl_tm ht4) rfl ?_
  refine v_callV1 h 23 26 dX1_takeChair_23 rfl cb_X1_choiceFrom cv_X1_choiceFrom pl_ln lk_X1_136 (rok (by decide) (by decide)) ⟨rfl, rfl⟩ ⟨Nat.zero_le _, Nat.zero_le _⟩ (k_choiceFrom e7 hm hx hs) rfl rfl (Nat.le_of_ble_eq_true rfl) ?_
  rw [hp]
  refine v_istore_n (i := 3) h 26 27 dX1_takeChair_26 rfl rfl (by decide) (so3 rfl) ?_
  refine v_aload_n (i := 0) h 27 28 dX1_takeChair_27 rfl rfl ld0 ?_
  refine v_iload_n (i := 3) h 28 29 dX1_takeChair_28 rfl rfl ld3 ?_
  refine v_callV1 h 29 32 dX1_takeChair_29 rfl cb_X1_chairAt cv_X1_chairAt pl_ln lk_X1_54 (rok (by decide) (by decide)) ⟨rfl, rfl⟩ ⟨Nat.zero_le _, Nat.zero_le _⟩ (k_chairNone (Or.inl (by decide))) rfl rfl (Nat.le_of_ble_eq_true rfl) ?_
  refine v_astoreN (i := 4) h 32 34 dX1_takeChair_32 rfl (by decide) (so4 rfl) ?_
  refine v_aloadN (i := 4) h 34 36 dX1_takeChair_34 rfl ld4 ?_
  refine v_ifnonnullN h 36 39 dX1_takeChair_36 rfl ?_
  exact v_ret h 39 f dX1_takeChair_39 rfl (Nat.zero_le _) (Nat.zero_le _) rfl rfl

set_option maxRecDepth 100000 in
set_option maxHeartbeats 4000000 in
theorem k_take1 {E : EE} {B : Nat} {S : St} {w : Wo} {t c nc nt : Nat} (e7 : S 7 = nI nc) (hm : nc ≤ 14) (e8 : S 8 = nI nt) (hmt : nt ≤ 4) (ht : t < nt) (hx : InS (S (125 + 8 * t + 0))) (hs : ∀ c, c < nc → InS (S (13 + 8 * c + 0))) (hz : S (125 + 8 * t + 2) = 0) (hc : c < nc) (hp : (chs S (S (125 + 8 * t + 0)) nc).1 = nI c) : Cd E mX1_takeChair (pl E B S w) [.ref B, .int (nI t)] (none) (pl E B (tak2 (takS S t c) nt t c) w) := by
  refine Cd.of RX1 rfl (by decide) [some (.ref B), some (.int (nI t)), none, none, none, none] (Nat.le_of_ble_eq_true rfl) rfl (fun Γ h f hmn => ?_)
  have ht4 : t < 4 := by omega
  have hc4 : c < 14 := by omega
  have f : Fn E Γ mX1_takeChair none (pl E B (tak2 (takS S t c) nt t c) w) := f
  have e8' : takS S t c 8 = nI nt := by rw [takS, upd_ne _ _ (by omega), upd_ne _ _ (by omega), upd_ne _ _ (by omega)]; exact e8
  have hx' : InS (takS S t c (125 + 8 * t + 0)) := by rw [takS, upd_ne _ _ (by omega), upd_ne _ _ (by omega), upd_ne _ _ (by omega)]; exact hx
  have hs' : InS (takS S t c (13 + 8 * c + 0)) := by rw [takS, upd_ne _ _ (by omega), upd_ne _ _ (by omega), upd_ne _ _ (by omega)]; exact hs c hc
  refine v_aload_n (i := 0) h 0 1 dX1_takeChair_0 rfl rfl ld0 ?_
  refine v_iload_n (i := 1) h 1 2 dX1_takeChair_1 rfl rfl ld1 ?_
  refine v_callV1 h 2 5 dX1_takeChair_2 rfl cb_X1_teamAt cv_X1_teamAt pl_ln lk_X1_62 (rok (by decide) (by decide)) ⟨rfl, rfl⟩ ⟨Nat.zero_le _, Nat.zero_le _⟩ (k_teamS e8 hmt ht) rfl rfl (Nat.le_of_ble_eq_true rfl) ?_
  refine v_astore_n (i := 2) h 5 6 dX1_takeChair_5 rfl rfl (by decide) (so2 rfl) ?_
  refine v_aload_n (i := 2) h 6 7 dX1_takeChair_6 rfl rfl ld2 ?_
  refine v_ifnull h 7 10 dX1_takeChair_7 rfl ?_
  refine v_aload_n (i := 2) h 10 11 dX1_takeChair_10 rfl rfl ld2 ?_
  refine v_get h 11 14 dX1_takeChair_11 rfl fo_X1_109 (pl_tm ht4) rfl ?_
  refine v_if_eq h 14 17 18 dX1_takeChair_14 rfl (by decide) (fun h14 => ?_) (fun h14 => absurd hz h14)
  refine v_aload_n (i := 0) h 18 19 dX1_takeChair_18 rfl rfl ld0 ?_
  refine v_aload_n (i := 2) h 19 20 dX1_takeChair_19 rfl rfl ld2 ?_
  refine v_get h 20 23 dX1_takeChair_20 rfl fo_X1_133 (pl_tm ht4) rfl ?_
  refine v_callV1 h 23 26 dX1_takeChair_23 rfl cb_X1_choiceFrom cv_X1_choiceFrom pl_ln lk_X1_136 (rok (by decide) (by decide)) ⟨rfl, rfl⟩ ⟨Nat.zero_le _, Nat.zero_le _⟩ (k_choiceFrom e7 hm hx hs) rfl rfl (Nat.le_of_ble_eq_true rfl) ?_
  rw [hp]
  refine v_istore_n (i := 3) h 26 27 dX1_takeChair_26 rfl rfl (by decide) (so3 rfl) ?_
  refine v_aload_n (i := 0) h 27 28 dX1_takeChair_27 rfl rfl ld0 ?_
  refine v_iload_n (i := 3) h 28 29 dX1_takeChair_28 rfl rfl ld3 ?_
  refine v_callV1 h 29 32 dX1_takeChair_29 rfl cb_X1_chairAt cv_X1_chairAt pl_ln lk_X1_54 (rok (by decide) (by decide)) ⟨rfl, rfl⟩ ⟨Nat.zero_le _, Nat.zero_le _⟩ (k_chairS e7 hm hc) rfl rfl (Nat.le_of_ble_eq_true rfl) ?_
  refine v_astore (i := 4) h 32 34 dX1_takeChair_32 rfl (by decide) (so4 rfl) ?_
  refine v_aload (i := 4) h 34 36 dX1_takeChair_34 rfl ld4 ?_
  refine v_ifnonnull h 36 40 dX1_takeChair_36 (by decide) ?_
  refine v_aload (i := 4) h 40 42 dX1_takeChair_40 rfl ld4 ?_
  refine v_iconst (v := 1) h 42 43 dX1_takeChair_42 rfl (by decide) ?_
  refine v_putCh h 43 46 dX1_takeChair_43 rfl fw_X1_103 (by assumption) (by decide) ?_
  refine v_aload (i := 4) h 46 48 dX1_takeChair_46 rfl ld4 ?_
  refine v_iload_n (i := 1) h 48 49 dX1_takeChair_48 rfl rfl ld1 ?_
  refine v_putCh h 49 52 dX1_takeChair_49 rfl fw_X1_139 (by assumption) (by decide) ?_
  refine v_aload_n (i := 2) h 52 53 dX1_takeChair_52 rfl rfl ld2 ?_
  refine v_iload_n (i := 3) h 53 54 dX1_takeChair_53 rfl rfl ld3 ?_
  refine v_putTm h 54 57 dX1_takeChair_54 rfl fw_X1_122 (by assumption) (by decide) ?_
  refine V.world (w' := pl E B (takS S t c) w) rfl ?_
  generalize takS S t c = S1 at f e8' hx' hs' ⊢
  refine v_aload_n (i := 0) h 57 58 dX1_takeChair_57 rfl rfl ld0 ?_
  refine v_aload_n (i := 2) h 58 59 dX1_takeChair_58 rfl rfl ld2 ?_
  refine v_get h 59 62 dX1_takeChair_59 rfl fo_X1_133 (pl_tm ht4) rfl ?_
  refine v_aload (i := 4) h 62 64 dX1_takeChair_62 rfl ld4 ?_
  refine v_get h 64 67 dX1_takeChair_64 rfl fo_X1_142 (pl_ch hc4) rfl ?_
  refine v_callV1 h 67 70 dX1_takeChair_67 rfl cb_X1_wayBetween cv_X1_wayBetween pl_ln lk_X1_143 (rok (by decide) (by decide)) ⟨rfl, rfl⟩ ⟨Nat.zero_le _, Nat.zero_le _⟩ (k_wayBetween hx' hs') rfl rfl (Nat.le_of_ble_eq_true rfl) ?_
  refine v_istore (i := 5) h 70 72 dX1_takeChair_70 rfl (by decide) (so5 rfl) ?_
  refine v_iload (i := 5) h 72 74 dX1_takeChair_72 rfl ld5 ?_
  refine v_if_ne h 74 77 88 dX1_takeChair_74 rfl (by decide) (fun h74 => ?_) (fun h74 => ?_)
  · refine v_aload_n (i := 2) h 88 89 dX1_takeChair_88 rfl rfl ld2 ?_
    refine v_iconst (v := 1) h 89 90 dX1_takeChair_89 rfl (by decide) ?_
    refine v_putTm h 90 93 dX1_takeChair_90 rfl fw_X1_109 (by assumption) (by decide) ?_
    refine v_aload_n (i := 2) h 93 94 dX1_takeChair_93 rfl rfl ld2 ?_
    refine v_iload (i := 5) h 94 96 dX1_takeChair_94 rfl ld5 ?_
    refine v_putTm h 96 99 dX1_takeChair_96 rfl fw_X1_113 (by assumption) (by decide) ?_
    refine v_ret h 99 f dX1_takeChair_99 rfl (Nat.zero_le _) (Nat.zero_le _) ?_ ?_
    · rfl
    · rw [tak2, if_neg h74]
  · refine v_aload_n (i := 0) h 77 78 dX1_takeChair_77 rfl rfl ld0 ?_
    refine v_iload_n (i := 1) h 78 79 dX1_takeChair_78 rfl rfl ld1 ?_
    refine v_aload_n (i := 2) h 79 80 dX1_takeChair_79 rfl rfl ld2 ?_
    refine v_aload (i := 4) h 80 82 dX1_takeChair_80 rfl ld4 ?_
    refine v_callV0 h 82 85 dX1_takeChair_82 rfl cb_X1_bringDown cv_X1_bringDown pl_ln lk_X1_125 (rok (by decide) (by decide)) ⟨rfl, rfl⟩ ⟨Nat.zero_le _, Nat.zero_le _⟩ (k_bringDown e8' hmt ht4 hc4 (nI t)) rfl rfl (Nat.le_of_ble_eq_true rfl) ?_
    refine v_goto h 85 99 dX1_takeChair_85 (by decide) ?_
    refine v_ret h 99 f dX1_takeChair_99 rfl (Nat.zero_le _) (Nat.zero_le _) ?_ ?_
    · rfl
    · rw [tak2, if_pos h74]

theorem k_takeChair {E : EE} {B : Nat} {S : St} {w : Wo} {t nc nt : Nat} (e7 : S 7 = nI nc) (hm : nc ≤ 14) (e8 : S 8 = nI nt) (hmt : nt ≤ 4) (ht : t < nt) (hx : InS (S (125 + 8 * t + 0))) (hs : ∀ c, c < nc → InS (S (13 + 8 * c + 0))) : Cd E mX1_takeChair (pl E B S w) [.ref B, .int (nI t)] none (pl E B (takeS S nc nt t) w) := by
  by_cases hz : S (125 + 8 * t + 2) = 0
  · rw [takeS, if_pos hz]
    rcases chs_in S (S (125 + 8 * t + 0)) nc (by omega) with hp | ⟨c, hc, hp, -⟩
    · rw [if_pos hp]
      exact k_take0 e7 hm e8 hmt ht hx hs hz hp
    · rw [if_neg (by rw [hp]; exact nI_ne_m1 (by omega)), hp, cnt, nI_clamp (by omega)]
      exact k_take1 e7 hm e8 hmt ht hx hs hz hc hp
  · rw [takeS, if_neg hz]
    exact k_takeN e8 hmt ht hz
