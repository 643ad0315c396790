/-! BOTH READ A TEXT ALIKE -/
theorem hang_c {Z : St} {nc : Nat} {a b c d x : Int32} : upd (hangS Z nc a b c d) (13 + 8 * nc + 3) x = hangS Z nc a b c x := by
  unfold hangS waitS
  funext i
  by_cases q0 : i = 13 + 8 * nc + 0
  · subst q0
    simp (disch := omega) only [upd_self, upd_ne]
  by_cases q1 : i = 13 + 8 * nc + 1
  · subst q1
    simp (disch := omega) only [upd_self, upd_ne]
  by_cases q2 : i = 13 + 8 * nc + 2
  · subst q2
    simp (disch := omega) only [upd_self, upd_ne]
  by_cases q3 : i = 13 + 8 * nc + 3
  · subst q3
    simp (disch := omega) only [upd_self, upd_ne]
  by_cases q4 : i = 13 + 8 * nc + 4
  · subst q4
    simp (disch := omega) only [upd_self, upd_ne]
  by_cases q5 : i = 13 + 8 * nc + 5
  · subst q5
    simp (disch := omega) only [upd_self, upd_ne]
  by_cases q6 : i = 13 + 8 * nc + 6
  · subst q6
    simp (disch := omega) only [upd_self, upd_ne]
  by_cases q7 : i = 13 + 8 * nc + 7
  · subst q7
    simp (disch := omega) only [upd_self, upd_ne]
  simp (disch := omega) only [upd_ne]
theorem hang_k {Z : St} {nc : Nat} {a b c d x : Int32} : upd (hangS Z nc a b c d) (13 + 8 * nc + 2) x = hangS Z nc a b x d := by
  unfold hangS waitS
  funext i
  by_cases q0 : i = 13 + 8 * nc + 0
  · subst q0
    simp (disch := omega) only [upd_self, upd_ne]
  by_cases q1 : i = 13 + 8 * nc + 1
  · subst q1
    simp (disch := omega) only [upd_self, upd_ne]
  by_cases q2 : i = 13 + 8 * nc + 2
  · subst q2
    simp (disch := omega) only [upd_self, upd_ne]
  by_cases q3 : i = 13 + 8 * nc + 3
  · subst q3
    simp (disch := omega) only [upd_self, upd_ne]
  by_cases q4 : i = 13 + 8 * nc + 4
  · subst q4
    simp (disch := omega) only [upd_self, upd_ne]
  by_cases q5 : i = 13 + 8 * nc + 5
  · subst q5
    simp (disch := omega) only [upd_self, upd_ne]
  by_cases q6 : i = 13 + 8 * nc + 6
  · subst q6
    simp (disch := omega) only [upd_self, upd_ne]
  by_cases q7 : i = 13 + 8 * nc + 7
  · subst q7
    simp (disch := omega) only [upd_self, upd_ne]
  simp (disch := omega) only [upd_ne]
theorem hang_0 {Z : St} {nc : Nat} {a b c d v x : Int32} : hangS (upd (upd Z 0 v) 7 x) nc a b c d = upd (hangS (upd Z 7 x) nc a b c d) 0 v := by
  unfold hangS waitS
  funext i
  by_cases q0 : i = 0
  · subst q0
    simp (disch := omega) only [upd_self, upd_ne]
  by_cases q1 : i = 7
  · subst q1
    simp (disch := omega) only [upd_self, upd_ne]
  by_cases q2 : i = 13 + 8 * nc + 0
  · subst q2
    simp (disch := omega) only [upd_self, upd_ne]
  by_cases q3 : i = 13 + 8 * nc + 1
  · subst q3
    simp (disch := omega) only [upd_self, upd_ne]
  by_cases q4 : i = 13 + 8 * nc + 2
  · subst q4
    simp (disch := omega) only [upd_self, upd_ne]
  by_cases q5 : i = 13 + 8 * nc + 3
  · subst q5
    simp (disch := omega) only [upd_self, upd_ne]
  by_cases q6 : i = 13 + 8 * nc + 4
  · subst q6
    simp (disch := omega) only [upd_self, upd_ne]
  by_cases q7 : i = 13 + 8 * nc + 5
  · subst q7
    simp (disch := omega) only [upd_self, upd_ne]
  by_cases q8 : i = 13 + 8 * nc + 6
  · subst q8
    simp (disch := omega) only [upd_self, upd_ne]
  by_cases q9 : i = 13 + 8 * nc + 7
  · subst q9
    simp (disch := omega) only [upd_self, upd_ne]
  simp (disch := omega) only [upd_ne]
theorem rt_step {tx : St} {tl : Int32} {n i : Nat} {S : St} {p : Int32} (hi : i < n) : rtR tx tl (n - i) i S p = if (rb S (cnt (S 7)) (tx i) p).1 = -1 then (nI i, (rb S (cnt (S 7)) (tx i) p).2) else rtR tx tl (n - (i + 1)) (i + 1) (rb S (cnt (S 7)) (tx i) p).2 (rb S (cnt (S 7)) (tx i) p).1 := by
  rw [show n - i = (n - (i + 1)) + 1 by omega]
  rfl
theorem rt_end {tx : St} {tl : Int32} {n : Nat} {S : St} {p : Int32} : rtR tx tl (n - n) n S p = (if p = 3 then tl else if 2 ≤ S 0 then -1 else tl, S) := by
  rw [Nat.sub_self]
  rfl
theorem at_no {T : St} {n i : Nat} {a : Int32} (h : atI T n i a a = 0) (hi : i < n) : ¬ T i = a := by
  intro e
  unfold atI at h
  rw [if_neg (by omega), if_neg (by rw [e]; exact fun q => Int32.lt_irrefl q), if_neg (by rw [e]; exact fun q => Int32.lt_irrefl q)] at h
  exact absurd h (by decide)
theorem at_yes {T : St} {n i : Nat} {a : Int32} (h : ¬ atI T n i a a = 0) : i < n ∧ T i = a := by
  obtain ⟨h1, h2, h3⟩ := atI_lt h
  exact ⟨h1, Int32.le_antisymm (nlt_le h3) (nlt_le h2)⟩
theorem at_out {T : St} {n i : Nat} {a b : Int32} (h : atI T n i a b = 0) (hi : i < n) (h2 : ¬ T i < a) : b < T i := by
  unfold atI at h
  rw [if_neg (by omega), if_neg h2] at h
  by_cases q : b < T i
  · exact q
  · rw [if_neg q] at h
    exact absurd h (by decide)
/-- where a chair has been read so far -/
def PC (T : St) (n i : Nat) (p : Int32) : Prop := p = 0 ∨ (p = 1 ∧ atI T n i 99 99 = 0 ∧ atI T n i 43 43 = 0) ∨ (p = 2 ∧ atI T n i 43 43 = 0)
theorem rb_pc {T S : St} {n i nc : Nat} {p : Int32} (hi : i < n) (h : PC T n i p) : rb S nc (T i) p = if T i = 43 then (-1, S) else if T i = 99 then (-1, S) else rbC S nc (T i) := by
  have h3 : ¬ p = 3 := by
    rcases h with rfl | ⟨rfl, -⟩ | ⟨rfl, -⟩ <;> decide
  have h43 : T i = 43 → ¬ p = 1 ∧ ¬ p = 2 := by
    intro e
    rcases h with rfl | ⟨rfl, -, q⟩ | ⟨rfl, q⟩
    · exact ⟨by decide, by decide⟩
    · exact absurd e (at_no q hi)
    · exact absurd e (at_no q hi)
  have h99 : T i = 99 → ¬ p = 1 := by
    intro e
    rcases h with rfl | ⟨rfl, q, -⟩ | ⟨rfl, q⟩
    · decide
    · exact absurd e (at_no q hi)
    · decide
  cases nc with
  | zero =>
    show rb0 S (T i) p = _
    unfold rb0
    rw [if_neg h3]
    by_cases e : T i = 43
    · rw [if_pos e, if_pos e, if_neg (h43 e).1, if_neg (h43 e).2]
    · rw [if_neg e, if_neg e]
  | succ m =>
    show rb1 S m (T i) p = _
    unfold rb1
    rw [if_neg h3]
    by_cases e : T i = 43
    · rw [if_pos e, if_pos e, if_neg (h43 e).1, if_neg (h43 e).2]
    · rw [if_neg e, if_neg e]
      by_cases e2 : T i = 99
      · rw [if_pos e2, if_pos e2, if_neg (h99 e2)]
      · rw [if_neg e2, if_neg e2]
/-- behind a plus -/
theorem rt_plus {T Z : St} {n i nc : Nat} (hi : i ≤ n) (hm : nc < 14) (e7 : Z 7 = nI (nc + 1)) : (atI T n i 48 57 = 0 → (rtR T (nI n) (n - i) i Z 3).1 = nI i) ∧ (¬ atI T n i 48 57 = 0 → rtR T (nI n) (n - i) i Z 3 = rtR T (nI n) (n - (i + 1)) (i + 1) (upd Z (13 + 8 * nc + 2) (T i - 48)) 0) := by
  have hc : cnt (Z 7) = nc + 1 := by rw [e7, cnt, nI_clamp (by omega)]
  constructor
  · intro h
    by_cases q : i = n
    · subst q
      rw [rt_end, if_pos rfl]
    · have hi2 : i < n := by omega
      rw [rt_step hi2, hc]
      have : (rb Z (nc + 1) (T i) 3).1 = -1 := by
        show (rb1 Z nc (T i) 3).1 = -1
        unfold rb1
        rw [if_pos rfl]
        by_cases a : T i < 48
        · rw [if_pos a]
        · rw [if_neg a, if_neg (fun z => absurd (at_out h hi2 a) (le_nlt z))]
      rw [if_pos this]
  · intro h
    obtain ⟨h1, h2, h3⟩ := atI_lt h
    rw [rt_step h1, hc]
    have : rb Z (nc + 1) (T i) 3 = (0, upd Z (13 + 8 * nc + 2) (T i - 48)) := by
      show rb1 Z nc (T i) 3 = _
      unfold rb1
      rw [if_pos rfl, if_neg h2, if_pos (nlt_le h3)]
    rw [this, if_neg (show ¬ (0 : Int32) = -1 by decide)]
theorem rt_pl {T Z : St} {n i nc : Nat} {p : Int32} (hm : nc < 14) (e7 : Z 7 = nI (nc + 1)) (hp : p = 1 ∨ p = 2) (h : ¬ atI T n i 43 43 = 0) : rtR T (nI n) (n - i) i Z p = rtR T (nI n) (n - (i + 1)) (i + 1) Z 3 := by
  have hc : cnt (Z 7) = nc + 1 := by rw [e7, cnt, nI_clamp (by omega)]
  obtain ⟨h1, h2⟩ := at_yes h
  rw [rt_step h1, hc]
  have : rb Z (nc + 1) (T i) p = (3, Z) := by
    show rb1 Z nc (T i) p = _
    unfold rb1
    rw [h2]
    rcases hp with rfl | rfl
    · rw [if_neg (by decide), if_pos rfl, if_pos rfl]
    · rw [if_neg (by decide), if_pos rfl, if_neg (by decide), if_pos rfl]
  rw [this, if_neg (show ¬ (3 : Int32) = -1 by decide)]
theorem rt_c {T Z : St} {n i nc : Nat} (hm : nc < 14) (e7 : Z 7 = nI (nc + 1)) (h : ¬ atI T n i 99 99 = 0) : rtR T (nI n) (n - i) i Z 1 = rtR T (nI n) (n - (i + 1)) (i + 1) (upd Z (13 + 8 * nc + 3) 1) 2 := by
  have hc : cnt (Z 7) = nc + 1 := by rw [e7, cnt, nI_clamp (by omega)]
  obtain ⟨h1, h2⟩ := at_yes h
  rw [rt_step h1, hc]
  have : rb Z (nc + 1) (T i) 1 = (2, upd Z (13 + 8 * nc + 3) 1) := by
    show rb1 Z nc (T i) 1 = _
    unfold rb1
    rw [h2, if_neg (by decide), if_neg (by decide), if_pos rfl, if_pos rfl]
  rw [this, if_neg (show ¬ (2 : Int32) = -1 by decide)]
def PQ (T : St) (n : Nat) (R : Int32 × St) (Q : Int32 × Nat × St) : Prop := (Q.1 = 0 → R.1 = nI Q.2.1 ∧ Q.2.1 ≤ n) ∧ (¬ Q.1 = 0 → Q.1 = 1 ∧ R.1 = -1 ∧ ∃ sp nc, Inv R.2 sp nc 0 0 0 ∧ Ag nc 0 0 R.2 Q.2.2)
theorem rng {x : Int32} {a b : Nat} (ha : a < 2 ^ 30) (hb : b < 2 ^ 30) (h1 : ¬ x < nI a) (h2 : ¬ nI b < x) : ∃ r, a ≤ r ∧ r ≤ b ∧ x = nI r := by
  rw [Int32.lt_iff_toInt_lt] at h1 h2
  rw [nI_toInt (by omega)] at h2 h1
  refine ⟨x.toInt.toNat, by omega, by omega, ?_⟩
  apply Int32.toInt_inj.mp
  rw [nI_toInt (by omega)]
  omega
theorem inv_0 {S : St} {sp nc nt ne m : Nat} (h : Inv S sp nc nt ne m) (h1 : 1 ≤ sp + 1) (h7 : sp + 1 ≤ 7) : Inv (upd S 0 (nI (sp + 1))) (sp + 1) nc nt ne m := by
  obtain ⟨⟨⟨a1, a2, a3, a4⟩, b1, b2, b3, b4, b5, b6⟩, hE, hC, hT⟩ := h
  refine ⟨⟨⟨upd_self _ _ _, h1, h7, fun j hj => by rw [upd_ne _ _ (by omega)]; exact a4 j hj⟩, by rw [upd_ne _ _ (by omega)]; exact b1, b2, by rw [upd_ne _ _ (by omega)]; exact b3, b4, by rw [upd_ne _ _ (by omega)]; exact b5, by rw [upd_ne _ _ (by omega)]; exact b6⟩, by rw [cntE_eq nc (fun d hd => upd_ne _ _ (by omega))]; exact hE, fun d hd => ?_, fun t ht => ?_⟩
  · obtain ⟨⟨a, ha, e⟩, c⟩ := hC d hd
    exact chI_eq (upd_ne _ _ (by omega)) (upd_ne _ _ (by omega)) (upd_ne _ _ (by omega)) (upd_ne _ _ (by omega)) (upd_ne _ _ (by omega)) ⟨⟨a, by omega, e⟩, c⟩
  · obtain ⟨⟨a, ha, e⟩, c⟩ := hT t ht
    exact tmI_eq (upd_ne _ _ (by omega)) (upd_ne _ _ (by omega)) (upd_ne _ _ (by omega)) (upd_ne _ _ (by omega)) (fun d hd p q => by rw [upd_ne _ _ (by omega), upd_ne _ _ (by omega)]; exact ⟨p, q⟩) ⟨⟨a, by omega, e⟩, c⟩
theorem sub48 : ∀ r, r < 10 → nI (48 + r) - 48 = nI r := by decide +kernel
/-- the state that a chair makes, of the drill's line and of the reference's row -/
theorem both_hang {Sc Sr : St} {k nc r co : Nat} {ch : Int32} (hI : Inv Sc (k + 1) nc 0 0 0) (hA : Ag nc 0 0 Sc (upd Sr 0 (nI (k + 1)))) (h14 : nc < 14) (h1 : 1 ≤ r) (h2 : r ≤ 4) (h3 : co ≤ 20) (hch : ch = 0 ∨ ch = 1) : Inv (hangS (upd Sc 7 (nI (nc + 1))) nc (nI k) (nI r) (nI co) ch) (k + 1) (nc + 1) 0 0 0 ∧ Ag (nc + 1) 0 0 (hangS (upd Sc 7 (nI (nc + 1))) nc (nI k) (nI r) (nI co) ch) (upd (hgS Sr (nI k) (nI r) (nI co) ch) 0 (nI (k + 1))) := by
  refine ⟨inv_addC hI h14 (by omega) h1 h2 h3 hch, ?_⟩
  have e7 : Sr 7 = nI nc := by
    have := hA.lo (i := 7) (by omega)
    rw [upd_ne _ _ (by omega)] at this
    rw [← this]; exact hI.c7
  unfold hgS
  rw [e7, ← hang_0, show cnt (nI nc) = nc from nI_clamp (by have := hI.n14; omega)]
  exact hA.hang _ _ _ _ _
theorem rtl {T : St} {n : Nat} (hn : n ≤ 100) : ∀ (F i k nc : Nat) (Sc Sr : St) (p : Int32), n - i < F → i ≤ n → k ≤ 6 → Inv Sc (k + 1) nc 0 0 0 → Ag nc 0 0 Sc (upd Sr 0 (nI (k + 1))) → PC T n i p → PQ T n (rtR T (nI n) (n - i) i Sc p) (rl T n F i k Sr) := by
  intro F
  induction F with
  | zero => intro i k nc Sc Sr p h0; omega
  | succ F ih =>
    intro i k nc Sc Sr p hF hi hk hI hA hp
    have hnc := hI.n14
    have e7r : Sr 7 = nI nc := by
      have := hA.lo (i := 7) (by omega)
      rw [upd_ne _ _ (by omega)] at this
      rw [← this]; exact hI.c7
    have h3 : ¬ p = 3 := by
      rcases hp with rfl | ⟨rfl, -⟩ | ⟨rfl, -⟩ <;> decide
    rw [rl_s]
    by_cases q : i = n
    · subst q
      rw [rt_end, if_neg h3, if_pos (Nat.le_refl _), hI.1.1.1]
      by_cases k0 : k = 0
      · subst k0
        rw [if_pos rfl, if_neg (by decide)]
        exact ⟨fun _ => ⟨rfl, Nat.le_refl _⟩, fun z => absurd rfl z⟩
      · rw [if_neg k0, if_pos (show (2 : Int32) ≤ nI (k + 1) from nI_le (a := 2) (by omega) (by omega))]
        exact ⟨fun z => absurd z (show ¬ (1 : Int32) = 0 by decide), fun _ => ⟨rfl, rfl, k + 1, nc, hI, hA⟩⟩
    · have hi2 : i < n := by omega
      have hcn : cnt (Sc 7) = nc := by rw [hI.c7, cnt, nI_clamp (by omega)]
      rw [if_neg (by omega), rt_step hi2, hcn, rb_pc hi2 hp]
      by_cases d : atI T n i 49 52 = 0
      · rw [if_pos d]
        have bad : ∀ Z : Int32 × St, Z.1 = -1 → PQ T n (if Z.1 = -1 then (nI i, Z.2) else rtR T (nI n) (n - (i + 1)) (i + 1) Z.2 Z.1) (0, i, Sr) := by
          intro Z hZ
          rw [if_pos hZ]
          exact ⟨fun _ => ⟨rfl, hi⟩, fun z => absurd rfl z⟩
        by_cases b : atI T n i 124 124 = 0
        · rw [if_pos b]
          have hb := at_no b hi2
          refine bad _ ?_
          by_cases e1 : T i = 43
          · rw [if_pos e1]
          · rw [if_neg e1]
            by_cases e2 : T i = 99
            · rw [if_pos e2]
            · rw [if_neg e2]
              unfold rbC
              rw [if_neg hb]
              by_cases e3 : T i < 49
              · rw [if_pos e3]
              · rw [if_neg e3, if_pos (at_out d hi2 e3)]
        · obtain ⟨-, hb⟩ := at_yes b
          rw [if_neg b, hb, if_neg (show ¬ (124 : Int32) = 43 by decide), if_neg (show ¬ (124 : Int32) = 99 by decide)]
          unfold rbC
          rw [if_pos rfl, hI.1.1.1]
          by_cases k6 : 6 ≤ k
          · rw [if_pos k6, if_neg (show ¬ nI (k + 1) < 7 from nI_nlt (b := 7) (by omega) (by omega))]
            exact bad _ rfl
          · rw [if_neg k6, if_pos (show nI (k + 1) < 7 from nI_lt (b := 7) (by omega) (by decide)), if_neg (show ¬ (0 : Int32) = -1 by decide), nI_1]
            refine ih (i + 1) (k + 1) nc _ Sr 0 (by omega) (by omega) (by omega) ?_ ?_ (Or.inl rfl)
            · exact inv_0 hI (by omega) (by omega)
            · have := hA.up (i := 0) (x := nI (k + 1 + 1)) rfl
              rw [upd_upd] at this
              exact this
      · rw [if_neg d]
        obtain ⟨-, d1, d2⟩ := atI_lt d
        have n43 : ¬ T i = 43 := fun e => d1 (by rw [e]; decide)
        have n99 : ¬ T i = 99 := fun e => d2 (by rw [e]; decide)
        have n124 : ¬ T i = 124 := fun e => d2 (by rw [e]; decide)
        rw [if_neg n43, if_neg n99]
        unfold rbC
        rw [if_neg n124, if_neg d1, if_neg d2, hI.c7]
        unfold rc
        rw [e7r]
        by_cases f14 : nc = 14
        · subst f14
          rw [if_neg (show ¬ nI 14 < 14 by decide), if_pos (show (-1 : Int32) = -1 from rfl), if_pos (show nI 14 = 14 by decide), if_pos (show (0 : Int32) = 0 from rfl)]
          exact ⟨fun _ => ⟨rfl, hi⟩, fun z => absurd rfl z⟩
        · have h14 : nc < 14 := by omega
          rw [if_pos (show nI nc < 14 from nI_lt (b := 14) h14 (by decide)), if_neg (show ¬ (1 : Int32) = -1 by decide), if_neg (show ¬ nI nc = 14 from fun e => f14 (nI_inj (b := 14) (by omega) (by decide) e))]
          obtain ⟨r, hr1, hr2, hr⟩ := rng (x := T i) (a := 49) (b := 52) (by decide) (by decide) d1 d2
          obtain ⟨r', rfl⟩ : ∃ r', r = 48 + r' := ⟨r - 48, by omega⟩
          rw [hr, sub48 r' (by omega), hI.1.1.1, nI_pred]
          have fin : ∀ (j co : Nat) (ch p' : Int32), i < j → j ≤ n → co ≤ 20 → (ch = 0 ∨ ch = 1) → PC T n j p' → PQ T n (rtR T (nI n) (n - j) j (hangS (upd Sc 7 (nI (nc + 1))) nc (nI k) (nI r') (nI co) ch) p') (rl T n F j k (hgS Sr (nI k) (nI r') (nI co) ch)) := by
            intro j co ch p' hj hj2 hco hch hp'
            obtain ⟨i1, i2⟩ := both_hang (r := r') (co := co) (ch := ch) hI hA h14 (by omega) (by omega) hco hch
            exact ih j k (nc + 1) _ _ p' (by omega) hj2 hk i1 i2 hp'
          have g7 : ∀ (co ch : Int32), hangS (upd Sc 7 (nI (nc + 1))) nc (nI k) (nI r') co ch 7 = nI (nc + 1) := fun co ch => (hangS_ne (by omega)).trans (upd_self _ _ _)
          -- behind the riders, the child told: a plus or not
          have plus : ∀ (j : Nat) (ch p' : Int32), i < j → j ≤ n → (ch = 0 ∨ ch = 1) → (p' = 1 ∧ atI T n j 99 99 = 0 ∨ p' = 2) → PQ T n (rtR T (nI n) (n - j) j (hangS (upd Sc 7 (nI (nc + 1))) nc (nI k) (nI r') 0 ch) p') (if (rc2 T n j k Sr (nI r') ch).1 = 0 then (0, (rc2 T n j k Sr (nI r') ch).2.1, (rc2 T n j k Sr (nI r') ch).2.2) else rl T n F (rc2 T n j k Sr (nI r') ch).2.1 k (rc2 T n j k Sr (nI r') ch).2.2) := by
            intro j ch p' hj hj2 hch hp'
            unfold rc2
            by_cases pl : atI T n j 43 43 = 0
            · rw [if_pos pl, if_neg (show ¬ (1 : Int32) = 0 by decide)]
              exact fin j 0 ch p' hj hj2 (by omega) hch (by rcases hp' with ⟨a, b⟩ | a; exact Or.inr (Or.inl ⟨a, b, pl⟩); exact Or.inr (Or.inr ⟨a, pl⟩))
            · rw [if_neg pl, rt_pl h14 (g7 0 ch) (by rcases hp' with ⟨a, -⟩ | a; exact Or.inl a; exact Or.inr a) pl]
              have j1 := (at_yes pl).1
              obtain ⟨u1, u2⟩ := rt_plus (T := T) (n := n) (i := j + 1) (by omega) h14 (g7 0 ch)
              by_cases dg : atI T n (j + 1) 48 57 = 0
              · rw [if_pos dg, if_pos rfl]
                exact ⟨fun _ => ⟨u1 dg, by show j + 1 ≤ n; omega⟩, fun z => absurd rfl z⟩
              · rw [if_neg dg, if_neg (show ¬ (1 : Int32) = 0 by decide), u2 dg, hang_k]
                obtain ⟨j2, dd1, dd2⟩ := atI_lt dg
                obtain ⟨s, hs1, hs2, hs⟩ := rng (x := T (j + 1)) (a := 48) (b := 57) (by decide) (by decide) dd1 dd2
                obtain ⟨s', rfl⟩ : ∃ s', s = 48 + s' := ⟨s - 48, by omega⟩
                rw [hs, sub48 s' (by omega)]
                exact fin (j + 2) s' ch 0 (by omega) (by omega) (by omega) hch (Or.inl rfl)
          by_cases c9 : atI T n (i + 1) 99 99 = 0
          · rw [if_pos c9]
            exact plus (i + 1) 0 1 (by omega) (by omega) (Or.inl rfl) (Or.inl ⟨rfl, c9⟩)
          · rw [if_neg c9, rt_c h14 (g7 0 0) c9, hang_c]
            have := (at_yes c9).1
            exact plus (i + 2) 1 2 (by omega) (by omega) (Or.inr rfl) (Or.inr rfl)
