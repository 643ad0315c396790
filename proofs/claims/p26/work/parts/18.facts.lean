/-! FACTS OF THE NUMBERS -/
def gd (n : Nat) (f : St) : St := fun k => if k < n then f k else 0
theorem gd_at {n : Nat} {f : St} {i : Nat} (h : i < n) : gd n f i = f i := if_pos h
theorem gd_up {n : Nat} {f : St} {i : Nat} {x : Int32} (h : i < n) : upd (gd n f) i x = gd n (upd f i x) := by
  funext k
  show (if k = i then x else if k < n then f k else 0) = if k < n then (if k = i then x else f k) else 0
  by_cases e : k = i
  · rw [if_pos e, if_pos (by omega), if_pos e]
  · rw [if_neg e, if_neg e]
theorem gd_eq {n : Nat} {f g : St} (h : ∀ i, i < n → f i = g i) : gd n f = gd n g := by
  funext k
  show (if k < n then f k else 0) = if k < n then g k else 0
  by_cases e : k < n
  · rw [if_pos e, if_pos e, h k e]
  · rw [if_neg e, if_neg e]
def cpA (f g : St) (n : Nat) : St := fun k => if k < n then g k else f k
theorem cpA_s {f g : St} {j : Nat} : upd (cpA f g j) j (g j) = cpA f g (j + 1) := by
  funext k
  show (if k = j then g j else if k < j then g k else f k) = if k < j + 1 then g k else f k
  by_cases e : k = j
  · rw [if_pos e, if_pos (by omega), e]
  · rw [if_neg e]
    by_cases e2 : k < j
    · rw [if_pos e2, if_pos (by omega)]
    · rw [if_neg e2, if_neg (by omega)]
theorem wup_up {w : Wo} {a : Nat} {e e' : va_E} : wup (wup w a e) a e' = wup w a e' := by
  refine Prod.ext rfl (funext fun q => ?_)
  show (if q = a then some e' else if q = a then some e else w.2 q) = if q = a then some e' else w.2 q
  by_cases h : q = a
  · rw [if_pos h, if_pos h]
  · rw [if_neg h, if_neg h, if_neg h]
theorem wup_same {w : Wo} {a : Nat} {e : va_E} (h : w.2 a = some e) : wup w a e = w := by
  refine Prod.ext rfl (funext fun q => ?_)
  show (if q = a then some e else w.2 q) = w.2 q
  by_cases hq : q = a
  · rw [if_pos hq, hq, h]
  · rw [if_neg hq]
theorem rk3 {S : St} {c : Nat} (h : S (13 + 8 * c + 3) = 0 ∨ S (13 + 8 * c + 3) = 1) : S (13 + 8 * c + 2) + 3 * S (13 + 8 * c + 3) = rkS S c := by
  unfold rkS
  rcases h with h | h
  · rw [h, if_pos rfl, Int32.mul_zero, Int32.add_zero]
  · rw [h, if_neg (by decide), Int32.mul_one]
theorem upd_same {S : St} {i : Nat} : upd S i (S i) = S := by
  funext k
  show (if k = i then S i else S k) = S k
  by_cases h : k = i
  · rw [if_pos h, h]
  · rw [if_neg h]
theorem upd_is {S : St} {i : Nat} {x : Int32} (h : S i = x) : upd S i x = S := by rw [← h, upd_same]
theorem upd_comm {S : St} {i j : Nat} {x y : Int32} (h : i ≠ j) : upd (upd S i x) j y = upd (upd S j y) i x := by
  funext k
  show (if k = j then y else if k = i then x else S k) = if k = i then x else if k = j then y else S k
  by_cases h1 : k = i
  · rw [if_pos h1, if_neg (by omega), if_pos h1]
  · rw [if_neg h1, if_neg h1]
def hI_ (S : St) (c : Nat) (tn : Int32) (n : Nat) : Int32 := if hlpN S c tn n = true then 1 else 0
theorem hI_s {S : St} {c : Nat} {tn : Int32} {n : Nat} : hI_ S c tn (n + 1) = if hI_ S c tn n = 0 then (if nI n = tn then 0 else if S (125 + 8 * n + 2) = 2 then (if S (125 + 8 * n + 0) = S (13 + 8 * c + 0) then 1 else 0) else 0) else 1 := by
  unfold hI_
  cases h : hlpN S c tn n with
  | true => rw [hlpN, h, Bool.true_or, if_pos rfl, if_neg (show ¬ (1 : Int32) = 0 by decide)]
  | false =>
    rw [hlpN, h, Bool.false_or, if_neg (show ¬ false = true by decide), if_pos rfl]
    unfold hlpB
    by_cases h1 : nI n = tn
    · rw [if_pos h1, if_neg (by rw [decide_eq_true_eq]; exact fun q => q.1 h1)]
    · rw [if_neg h1]
      by_cases h2 : S (125 + 8 * n + 2) = 2
      · rw [if_pos h2]
        by_cases h3 : S (125 + 8 * n + 0) = S (13 + 8 * c + 0)
        · rw [if_pos h3, if_pos (by rw [decide_eq_true_eq]; exact ⟨h1, h2, h3⟩)]
        · rw [if_neg h3, if_neg (by rw [decide_eq_true_eq]; exact fun q => h3 q.2.2)]
      · rw [if_neg h2, if_neg (by rw [decide_eq_true_eq]; exact fun q => h2 q.2.1)]
theorem wk_lt : ∀ r, 1 ≤ r → r < 5 → ∀ k, k < 31 → (1 : Int32) < 2 + nI r * (1 + nI k / 5) := by
  have h : ∀ r, r < 5 → 1 ≤ r → ∀ k, k < 31 → (1 : Int32) < 2 + nI r * (1 + nI k / 5) := by decide +kernel
  exact fun r a b => h r b a
theorem wk_1 : ∀ r, r < 5 → 1 ≤ r → ∀ k, k < 31 → (if 1 < 2 + nI r * (1 + nI k / 5) - 1 then 2 + nI r * (1 + nI k / 5) - 1 else 1) = 2 + nI r * (1 + nI k / 5) - 1 := by decide +kernel

theorem chs_at (S : St) (x : Int32) : ∀ n, n < 2 ^ 31 → (chs S x n).1 = -1 ∨ ∃ c, c < n ∧ (chs S x n).1 = nI c ∧ (chs S x n).2 = (rkS S c, wayV S x (S (13 + 8 * c + 0))) := by
  intro n
  induction n with
  | zero => intro _; exact Or.inl rfl
  | succ n ih =>
    intro hn
    have old : (chs S x n).1 = -1 ∨ ∃ c, c < n + 1 ∧ (chs S x n).1 = nI c ∧ (chs S x n).2 = (rkS S c, wayV S x (S (13 + 8 * c + 0))) := by
      rcases ih (by omega) with h | ⟨c, h1, h2, h3⟩
      · exact Or.inl h
      · exact Or.inr ⟨c, by omega, h2, h3⟩
    rw [chs_succ]
    have new : (nI n, rkS S n, wayV S x (S (13 + 8 * n + 0))).1 = -1 ∨ ∃ c, c < n + 1 ∧ (nI n, rkS S n, wayV S x (S (13 + 8 * n + 0))).1 = nI c ∧ (nI n, rkS S n, wayV S x (S (13 + 8 * n + 0))).2 = (rkS S c, wayV S x (S (13 + 8 * c + 0))) := Or.inr ⟨n, by omega, rfl, rfl⟩
    repeat' split
    all_goals first | exact new | exact old
theorem chs_step {S : St} {x : Int32} {j b : Nat} (hb : b < 2 ^ 31) (h0 : S (13 + 8 * j + 4) = 0) (e1 : (chs S x j).1 = nI b) (e2 : (chs S x j).2 = (rkS S b, wayV S x (S (13 + 8 * b + 0)))) : (chs S x (j + 1)).1 = if rkS S j ≤ rkS S b then (if rkS S j = rkS S b then (if wayV S x (S (13 + 8 * b + 0)) ≤ wayV S x (S (13 + 8 * j + 0)) then nI b else nI j) else nI b) else nI j := by
  rw [chs_succ, if_pos h0, if_neg (by rw [e1]; exact nI_ne_m1 hb), e2]
  by_cases h1 : rkS S j ≤ rkS S b
  · rw [if_neg (le_nlt h1), if_pos h1]
    by_cases h2 : rkS S j = rkS S b
    · rw [if_pos h2, if_pos h2]
      split
      · exact e1
      · rfl
    · rw [if_neg h2, if_neg h2]
      exact e1
  · rw [if_pos (nle_lt h1), if_neg h1]
theorem mn30 {x : Int32} : (if x < 30 then x else 30) = if x ≤ 30 then x else 30 := by
  by_cases h : x < 30
  · rw [if_pos h, if_pos (Int32.le_of_lt h)]
  · rw [if_neg h]
    by_cases h2 : x ≤ 30
    · rw [if_pos h2]
      exact Int32.le_antisymm (nlt_le h) h2
    · rw [if_neg h2]
theorem mx0 {x : Int32} : (if 0 < x then x else 0) = if 0 ≤ x then x else 0 := by
  by_cases h : 0 < x
  · rw [if_pos h, if_pos (Int32.le_of_lt h)]
  · rw [if_neg h]
    by_cases h2 : 0 ≤ x
    · rw [if_pos h2]
      exact Int32.le_antisymm h2 (nlt_le h)
    · rw [if_neg h2]
theorem lt10 {x : Int32} : ((if x ≤ 30 then x else 30) < 10) = (x < 10) := by
  by_cases h : x ≤ 30
  · rw [if_pos h]
  · rw [if_neg h]
    refine propext ⟨fun q => absurd q (by decide), fun q => absurd (Int32.le_of_lt (Int32.lt_trans q (show (10 : Int32) < 30 by decide))) h⟩
/-- what is where when a chair has been emptied -/
def fK (S : St) (t c ne : Nat) : St := fun i =>
  if i = 12 then S 12 + 1 else if i = 157 + ne then nI c else if i = 13 + 8 * c + 4 then 2 else if i = 13 + 8 * c + 6 then S 9 + 1
  else if i = 125 + 8 * t + 5 then S (125 + 8 * t + 5) + 1 else if i = 125 + 8 * t + 6 then S (125 + 8 * t + 6) + S (13 + 8 * c + 1)
  else if i = 125 + 8 * t + 1 then (if S (125 + 8 * t + 1) + S (13 + 8 * c + 1) ≤ 30 then S (125 + 8 * t + 1) + S (13 + 8 * c + 1) else 30)
  else if i = 125 + 8 * t + 2 then (if S (125 + 8 * t + 1) + S (13 + 8 * c + 1) < 10 then 0 else 3) else if i = 125 + 8 * t + 3 then (if S (125 + 8 * t + 1) + S (13 + 8 * c + 1) < 10 then 0 else 5)
  else if i = 125 + 8 * t + 4 then -1 else fin0 S c i
theorem fin_fK {S : St} {t c ne : Nat} (hc : c < 14) (ht : t < 4) (hne : ne < 14) (e12 : S 12 = nI ne) (e4 : S (125 + 8 * t + 4) = nI c) : finS S t c = fK S t c ne := by
  have e12' : fin0 S c 12 = nI ne := (fin0_ne (by omega) (by omega)).trans e12
  have e4' : fin0 S c (125 + 8 * t + 4) = nI c := (fin0_ne (by omega) (by omega)).trans e4
  have e1' : fin0 S c (125 + 8 * t + 1) = S (125 + 8 * t + 1) := fin0_ne (by omega) (by omega)
  have e5' : fin0 S c (125 + 8 * t + 5) = S (125 + 8 * t + 5) := fin0_ne (by omega) (by omega)
  have e6' : fin0 S c (125 + 8 * t + 6) = S (125 + 8 * t + 6) := fin0_ne (by omega) (by omega)
  have e9' : fin0 S c (13 + 8 * c + 1) = S (13 + 8 * c + 1) := fin0_ne (by omega) (by omega)
  funext i
  unfold fK
  unfold finS
  generalize fin0 S c = Z at e12' e4' e1' e5' e6' e9' ⊢
  unfold fn8
  by_cases h10 : S (125 + 8 * t + 1) + S (13 + 8 * c + 1) < 10
  · rw [if_pos h10, if_pos h10]
    have hh : idleS (fn6 (fn5 (fn4 (fn3 (fn2 (fn1 Z c (S 9 + 1)) t)) t) t c) t c) t (125 + 8 * t + 1) = if S (125 + 8 * t + 1) + S (13 + 8 * c + 1) ≤ 30 then S (125 + 8 * t + 1) + S (13 + 8 * c + 1) else 30 := by
      unfold idleS fn6 fn5 fn4 fn3 fn2 fn1
      simp (disch := omega) only [upd_self, upd_ne, e12', nI_clamp, e1', e9', mn30]
    rw [hh, if_pos (by rw [lt10]; exact h10)]
    unfold idleS fn6 fn5 fn4 fn3 fn2 fn1
    simp (disch := omega) only [upd_ne (S := Z) (i := 13 + 8 * c + 4) (j := 12), upd_self, upd_ne, e12', nI_clamp, e1', e9', e4', e5', e6', mn30]
    by_cases q0 : i = 12
    · rw [if_pos q0]
      subst q0
      simp (disch := omega) only [upd_self, upd_ne, e12, e12', e4', e5', e6', e1', e9']
    rw [if_neg q0]
    by_cases q1 : i = 157 + ne
    · rw [if_pos q1]
      subst q1
      simp (disch := omega) only [upd_self, upd_ne, e12, e12', e4', e5', e6', e1', e9']
    rw [if_neg q1]
    by_cases q2 : i = 13 + 8 * c + 4
    · rw [if_pos q2]
      subst q2
      simp (disch := omega) only [upd_self, upd_ne, e12, e12', e4', e5', e6', e1', e9']
    rw [if_neg q2]
    by_cases q3 : i = 13 + 8 * c + 6
    · rw [if_pos q3]
      subst q3
      simp (disch := omega) only [upd_self, upd_ne, e12, e12', e4', e5', e6', e1', e9']
    rw [if_neg q3]
    by_cases q4 : i = 125 + 8 * t + 5
    · rw [if_pos q4]
      subst q4
      simp (disch := omega) only [upd_self, upd_ne, e12, e12', e4', e5', e6', e1', e9']
    rw [if_neg q4]
    by_cases q5 : i = 125 + 8 * t + 6
    · rw [if_pos q5]
      subst q5
      simp (disch := omega) only [upd_self, upd_ne, e12, e12', e4', e5', e6', e1', e9']
    rw [if_neg q5]
    by_cases q6 : i = 125 + 8 * t + 1
    · rw [if_pos q6]
      subst q6
      simp (disch := omega) only [upd_self, upd_ne, e12, e12', e4', e5', e6', e1', e9']
    rw [if_neg q6]
    by_cases q7 : i = 125 + 8 * t + 2
    · rw [if_pos q7]
      subst q7
      simp (disch := omega) only [upd_self, upd_ne, e12, e12', e4', e5', e6', e1', e9']
    rw [if_neg q7]
    by_cases q8 : i = 125 + 8 * t + 3
    · rw [if_pos q8]
      subst q8
      simp (disch := omega) only [upd_self, upd_ne, e12, e12', e4', e5', e6', e1', e9']
    rw [if_neg q8]
    by_cases q9 : i = 125 + 8 * t + 4
    · rw [if_pos q9]
      subst q9
      simp (disch := omega) only [upd_self, upd_ne, e12, e12', e4', e5', e6', e1', e9']
    rw [if_neg q9]
    simp (disch := omega) only [upd_ne]
  · rw [if_neg h10, if_neg h10]
    have hh : idleS (fn6 (fn5 (fn4 (fn3 (fn2 (fn1 Z c (S 9 + 1)) t)) t) t c) t c) t (125 + 8 * t + 1) = if S (125 + 8 * t + 1) + S (13 + 8 * c + 1) ≤ 30 then S (125 + 8 * t + 1) + S (13 + 8 * c + 1) else 30 := by
      unfold idleS fn6 fn5 fn4 fn3 fn2 fn1
      simp (disch := omega) only [upd_self, upd_ne, e12', nI_clamp, e1', e9', mn30]
    rw [hh, if_neg (by rw [lt10]; exact h10)]
    unfold idleS fn6 fn5 fn4 fn3 fn2 fn1
    simp (disch := omega) only [upd_ne (S := Z) (i := 13 + 8 * c + 4) (j := 12), upd_self, upd_ne, e12', nI_clamp, e1', e9', e4', e5', e6', mn30]
    by_cases q0 : i = 12
    · rw [if_pos q0]
      subst q0
      simp (disch := omega) only [upd_self, upd_ne, e12, e12', e4', e5', e6', e1', e9']
    rw [if_neg q0]
    by_cases q1 : i = 157 + ne
    · rw [if_pos q1]
      subst q1
      simp (disch := omega) only [upd_self, upd_ne, e12, e12', e4', e5', e6', e1', e9']
    rw [if_neg q1]
    by_cases q2 : i = 13 + 8 * c + 4
    · rw [if_pos q2]
      subst q2
      simp (disch := omega) only [upd_self, upd_ne, e12, e12', e4', e5', e6', e1', e9']
    rw [if_neg q2]
    by_cases q3 : i = 13 + 8 * c + 6
    · rw [if_pos q3]
      subst q3
      simp (disch := omega) only [upd_self, upd_ne, e12, e12', e4', e5', e6', e1', e9']
    rw [if_neg q3]
    by_cases q4 : i = 125 + 8 * t + 5
    · rw [if_pos q4]
      subst q4
      simp (disch := omega) only [upd_self, upd_ne, e12, e12', e4', e5', e6', e1', e9']
    rw [if_neg q4]
    by_cases q5 : i = 125 + 8 * t + 6
    · rw [if_pos q5]
      subst q5
      simp (disch := omega) only [upd_self, upd_ne, e12, e12', e4', e5', e6', e1', e9']
    rw [if_neg q5]
    by_cases q6 : i = 125 + 8 * t + 1
    · rw [if_pos q6]
      subst q6
      simp (disch := omega) only [upd_self, upd_ne, e12, e12', e4', e5', e6', e1', e9']
    rw [if_neg q6]
    by_cases q7 : i = 125 + 8 * t + 2
    · rw [if_pos q7]
      subst q7
      simp (disch := omega) only [upd_self, upd_ne, e12, e12', e4', e5', e6', e1', e9']
    rw [if_neg q7]
    by_cases q8 : i = 125 + 8 * t + 3
    · rw [if_pos q8]
      subst q8
      simp (disch := omega) only [upd_self, upd_ne, e12, e12', e4', e5', e6', e1', e9']
    rw [if_neg q8]
    by_cases q9 : i = 125 + 8 * t + 4
    · rw [if_pos q9]
      subst q9
      simp (disch := omega) only [upd_self, upd_ne, e12, e12', e4', e5', e6', e1', e9']
    rw [if_neg q9]
    simp (disch := omega) only [upd_ne]

theorem inv_span {S : St} {sp nc nt ne m t c : Nat} (h : Inv S sp nc nt ne m) (ht : t < nt) (hc : c < nc) : Inv (upd S (125 + 8 * t + 0) (S (13 + 8 * c + 0))) sp nc nt ne m := by
  have h14 := h.1.2.2.1
  refine inv_team h ht (fun i hi => upd_ne _ _ (by omega)) ?_
  obtain ⟨a, b, d⟩ := h.2.2.2 t ht
  unfold tmI
  rw [upd_self, upd_ne _ _ (by omega), upd_ne _ _ (by omega), upd_ne _ _ (by omega)]
  refine ⟨(h.2.2.1 c hc).1, b, ?_⟩
  rcases d with d | ⟨d1, x, d2, d3, d4, d5⟩
  · exact Or.inl d
  · exact Or.inr ⟨d1, x, d2, d3, by rw [upd_ne _ _ (by omega)]; exact d4, by rw [upd_ne _ _ (by omega)]; exact d5⟩
theorem waySum_ge {S : St} (h : ∀ k, k < 6 → ∃ x, 1 ≤ x ∧ x ≤ 20 ∧ S (1 + k) = nI x) (lo : Nat) : ∀ n, lo + n ≤ 6 → ∃ x, n ≤ x ∧ x ≤ 20 * n ∧ waySum S lo n = nI x := by
  intro n
  induction n with
  | zero => intro _; exact ⟨0, Nat.le_refl _, Nat.le_refl _, rfl⟩
  | succ n ih =>
    intro hn
    obtain ⟨x, a, b, e⟩ := ih (by omega)
    obtain ⟨y, c, d, e2⟩ := h (lo + n) (by omega)
    refine ⟨x + y, by omega, by omega, ?_⟩
    rw [waySum, e, e2, nI_add]
theorem wayV_0 {S : St} (h : ∀ k, k < 6 → ∃ x, 1 ≤ x ∧ x ≤ 20 ∧ S (1 + k) = nI x) {x y : Int32} (hx : InS x) (hy : InS y) (hz : wayV S x y = 0) : x = y := by
  obtain ⟨a, ha, rfl⟩ := hx
  obtain ⟨b, hb, rfl⟩ := hy
  unfold wayV at hz
  rw [nI_clamp (by omega), nI_clamp (by omega)] at hz
  obtain ⟨v, h1, h2, h3⟩ := waySum_ge h (min a b) (max a b - min a b) (by omega)
  rw [h3] at hz
  have := nI_inj (b := 0) (by omega) (by omega) hz
  rw [show a = b by omega]
theorem waySum_eq {S S' : St} (h : ∀ k, k < 6 → S' (1 + k) = S (1 + k)) (lo : Nat) : ∀ n, lo + n ≤ 6 → waySum S' lo n = waySum S lo n := by
  intro n
  induction n with
  | zero => intro _; rfl
  | succ n ih =>
    intro hn
    rw [waySum, waySum, ih (by omega), h (lo + n) (by omega)]
theorem wayV_eq {S S' : St} (h : ∀ k, k < 6 → S' (1 + k) = S (1 + k)) {x y : Int32} (hx : InS x) (hy : InS y) : wayV S' x y = wayV S x y := by
  obtain ⟨a, ha, rfl⟩ := hx
  obtain ⟨b, hb, rfl⟩ := hy
  unfold wayV
  rw [nI_clamp (by omega), nI_clamp (by omega), waySum_eq h _ _ (by omega)]
theorem cold1_is {S : St} {sp nc nt ne m c : Nat} (hI : Inv S sp nc nt ne m) (hc : c < nc) : upd S (13 + 8 * c + 2) (if 2 ≤ S (13 + 8 * c + 4) then S (13 + 8 * c + 2) else if 20 ≤ S (13 + 8 * c + 2) then S (13 + 8 * c + 2) else S (13 + 8 * c + 2) + 1) = cold1 S c := by
  obtain ⟨-, -, ⟨k, hk, e⟩, -, d⟩ := hI.2.2.1 c hc
  unfold cold1
  by_cases h : S (13 + 8 * c + 4) = 2
  · rw [if_pos (by rw [h]; decide), if_pos h, upd_same]
  · rw [if_neg h, if_neg (by rcases d with d | d | d <;> first | exact absurd d h | (rw [d]; decide)), e, min20 k (by omega)]
    by_cases h2 : k = 20
    · subst h2
      rw [if_pos (by decide)]
      rfl
    · rw [if_neg (show ¬ (20 : Int32) ≤ nI k from nI_ge (a := k) (b := 20) (by omega) (by decide)), nI_1, Nat.min_eq_right (by omega)]
theorem rem10' {m : Nat} (hm : m < 2 ^ 30) : nI m - nI m / 10 * 10 = nI (m % 10) := pk_rem (a := m) (d := 10) (by omega) (by omega) (by omega)
theorem goN_s (S : St) (nt t : Nat) : goN S nt (t + 1) = goS (goN S nt t) nt t := rfl
theorem takN_s (S : St) (nc nt t : Nat) : takN S nc nt (t + 1) = takeS (takN S nc nt t) nc nt t := rfl
theorem coldS_s (S : St) (c : Nat) : coldS S (c + 1) = cold1 (coldS S c) c := rfl
theorem tm0 {S : St} {sp nc nt ne m t : Nat} (hI : Inv S sp nc nt ne m) (ht : t < nt) (h : S (125 + 8 * t + 2) ≤ 0) : S (125 + 8 * t + 2) = 0 := by
  rcases (hI.2.2.2 t ht).2.2 with ⟨d | d, -⟩ | ⟨d | d, -⟩
  · exact d
  all_goals rw [d] at h; exact absurd h (by decide)
theorem upd_upd {S : St} {i : Nat} {x y : Int32} : upd (upd S i x) i y = upd S i y := by
  funext k
  show (if k = i then y else if k = i then x else S k) = if k = i then y else S k
  by_cases h : k = i
  · rw [if_pos h, if_pos h]
  · rw [if_neg h, if_neg h, if_neg h]
def pasS (nc nt : Nat) (S : St) (m : Nat) : Nat → St
  | 0 => S
  | k + 1 => minS (pasS nc nt S m k) (m + k) nc nt
theorem inv_pas {S : St} {sp nc nt ne m : Nat} (h : Inv S sp nc nt ne m) : ∀ k, ∃ ne', Inv (pasS nc nt S m k) sp nc nt ne' (m + k) := by
  intro k
  induction k with
  | zero => exact ⟨ne, h⟩
  | succ k ih =>
    obtain ⟨ne', hb⟩ := ih
    exact inv_min hb
theorem mean_num : ∀ a, a < 281 → ∀ b, b < 14 → vf_n64 (FP.ddiv (FP.i2d (nI a)) (FP.i2d (nI (b + 1)))) := by
  unfold vf_n64
  decide +kernel
theorem mc_is {S : St} {sp nc nt ne m : Nat} (hI : Inv S sp nc nt ne m) : ∀ n, n ≤ nc → ∃ a b, a ≤ 20 * n ∧ b ≤ n ∧ mcS S n = nI a ∧ mcN S n = nI b := by
  intro n
  induction n with
  | zero => intro _; exact ⟨0, 0, by omega, by omega, rfl, rfl⟩
  | succ n ih =>
    intro hn
    obtain ⟨a, b, h1, h2, h3, h4⟩ := ih (by omega)
    obtain ⟨k, hk, e⟩ := (hI.2.2.1 n (by omega)).2.2.1
    rw [mcS_s, mcN_s, h3, h4, e]
    by_cases q : S (13 + 8 * n + 4) = 2
    · rw [if_pos q, if_pos q]; exact ⟨a, b, by omega, by omega, rfl, rfl⟩
    · rw [if_neg q, if_neg q, nI_add, nI_1]; exact ⟨a + k, b + 1, by omega, by omega, rfl, rfl⟩
theorem mean_ok {S : St} {sp nc nt ne m : Nat} (hI : Inv S sp nc nt ne m) : ¬ mcN S nc = 0 → vf_n64 (FP.ddiv (FP.i2d (mcS S nc)) (FP.i2d (mcN S nc))) := by
  intro h
  obtain ⟨a, b, h1, h2, h3, h4⟩ := mc_is hI nc (Nat.le_refl _)
  have := hI.n14
  rw [h4] at h
  obtain ⟨b', rfl⟩ : ∃ b', b = b' + 1 := ⟨b - 1, by
    rcases Nat.eq_zero_or_pos b with q | q
    · subst q; exact absurd rfl h
    · omega⟩
  rw [h3, h4]
  exact mean_num a (by omega) b' (by omega)
