/-! WHAT ALWAYS HOLDS OF THE NUMBERS -/
def cntE (S : St) : Nat → Nat
  | 0 => 0
  | n + 1 => cntE S n + (if S (13 + 8 * n + 4) = 2 then 1 else 0)
def chI (S : St) (sp c : Nat) : Prop := (∃ a, a < sp ∧ S (13 + 8 * c + 0) = nI a) ∧ (∃ r, 1 ≤ r ∧ r ≤ 4 ∧ S (13 + 8 * c + 1) = nI r) ∧ (∃ k, k ≤ 20 ∧ S (13 + 8 * c + 2) = nI k) ∧ (S (13 + 8 * c + 3) = 0 ∨ S (13 + 8 * c + 3) = 1) ∧ (S (13 + 8 * c + 4) = 0 ∨ S (13 + 8 * c + 4) = 1 ∨ S (13 + 8 * c + 4) = 2)
def tmI (S : St) (sp nc t : Nat) : Prop := (∃ a, a < sp ∧ S (125 + 8 * t + 0) = nI a) ∧ (∃ k, k ≤ 30 ∧ S (125 + 8 * t + 1) = nI k) ∧ (((S (125 + 8 * t + 2) = 0 ∨ S (125 + 8 * t + 2) = 3) ∧ S (125 + 8 * t + 4) = -1) ∨ ((S (125 + 8 * t + 2) = 1 ∨ S (125 + 8 * t + 2) = 2) ∧ ∃ c, c < nc ∧ S (125 + 8 * t + 4) = nI c ∧ S (13 + 8 * c + 4) = 1 ∧ S (13 + 8 * c + 5) = nI t))
def hdI (S : St) (sp nc nt ne m : Nat) : Prop := (S 0 = nI sp ∧ 1 ≤ sp ∧ sp ≤ 7 ∧ ∀ k, k < 6 → ∃ x, 1 ≤ x ∧ x ≤ 20 ∧ S (1 + k) = nI x) ∧ (S 7 = nI nc ∧ nc ≤ 14 ∧ S 8 = nI nt ∧ nt ≤ 4 ∧ S 9 = nI m ∧ S 12 = nI ne)
def Inv (S : St) (sp nc nt ne m : Nat) : Prop := hdI S sp nc nt ne m ∧ ne = cntE S nc ∧ (∀ c, c < nc → chI S sp c) ∧ (∀ t, t < nt → tmI S sp nc t)
theorem hdI_eq {S S' : St} {sp nc nt ne m : Nat} (h : ∀ i, i < 13 → i ≠ 10 → i ≠ 11 → S' i = S i) (hI : hdI S sp nc nt ne m) : hdI S' sp nc nt ne m := by
  obtain ⟨⟨a1, a2, a3, a4⟩, b1, b2, b3, b4, b5, b6⟩ := hI
  refine ⟨⟨by rw [h 0 (by omega) (by omega) (by omega)]; exact a1, a2, a3, fun k hk => ?_⟩, by rw [h 7 (by omega) (by omega) (by omega)]; exact b1, b2, by rw [h 8 (by omega) (by omega) (by omega)]; exact b3, b4, by rw [h 9 (by omega) (by omega) (by omega)]; exact b5, by rw [h 12 (by omega) (by omega) (by omega)]; exact b6⟩
  rw [h (1 + k) (by omega) (by omega) (by omega)]
  exact a4 k hk
theorem cntE_eq {S S' : St} : ∀ n, (∀ c, c < n → S' (13 + 8 * c + 4) = S (13 + 8 * c + 4)) → cntE S' n = cntE S n := by
  intro n
  induction n with
  | zero => intro _; rfl
  | succ n ih =>
    intro h
    unfold cntE
    rw [ih (fun c hc => h c (by omega)), h n (by omega)]
theorem chI_eq {S S' : St} {sp c : Nat} (h0 : S' (13 + 8 * c + 0) = S (13 + 8 * c + 0)) (h1 : S' (13 + 8 * c + 1) = S (13 + 8 * c + 1)) (h2 : S' (13 + 8 * c + 2) = S (13 + 8 * c + 2)) (h3 : S' (13 + 8 * c + 3) = S (13 + 8 * c + 3)) (h4 : S' (13 + 8 * c + 4) = S (13 + 8 * c + 4)) (h : chI S sp c) : chI S' sp c := by
  unfold chI
  rw [h0, h1, h2, h3, h4]
  exact h
theorem tmI_eq {S S' : St} {sp nc t : Nat} (h0 : S' (125 + 8 * t + 0) = S (125 + 8 * t + 0)) (h1 : S' (125 + 8 * t + 1) = S (125 + 8 * t + 1)) (h2 : S' (125 + 8 * t + 2) = S (125 + 8 * t + 2)) (h4 : S' (125 + 8 * t + 4) = S (125 + 8 * t + 4)) (hc : ∀ c, c < nc → S (13 + 8 * c + 4) = 1 → S (13 + 8 * c + 5) = nI t → S' (13 + 8 * c + 4) = 1 ∧ S' (13 + 8 * c + 5) = nI t) (h : tmI S sp nc t) : tmI S' sp nc t := by
  obtain ⟨a, b, d⟩ := h
  unfold tmI
  rw [h0, h1, h2, h4]
  refine ⟨a, b, ?_⟩
  rcases d with d | ⟨d1, c, d2, d3, d4, d5⟩
  · exact Or.inl d
  · exact Or.inr ⟨d1, c, d2, d3, hc c d2 d4 d5⟩
theorem cntE_le {S : St} : ∀ n, cntE S n ≤ n := by
  intro n
  induction n with
  | zero => exact Nat.le_refl _
  | succ n ih =>
    unfold cntE
    split <;> omega
theorem cntE_lt {S : St} : ∀ n c, c < n → ¬ S (13 + 8 * c + 4) = 2 → cntE S n < n := by
  intro n
  induction n with
  | zero => intro c h; omega
  | succ n ih =>
    intro c hc h
    unfold cntE
    by_cases e : c = n
    · subst e
      rw [if_neg h]
      have := cntE_le (S := S) c
      omega
    · have := ih c (by omega) h
      split <;> omega
theorem cntE_up {S S' : St} {c : Nat} (h1 : ¬ S (13 + 8 * c + 4) = 2) (h2 : S' (13 + 8 * c + 4) = 2) : ∀ n, c < n → (∀ d, d < n → d ≠ c → S' (13 + 8 * d + 4) = S (13 + 8 * d + 4)) → cntE S' n = cntE S n + 1 := by
  intro n
  induction n with
  | zero => intro h; omega
  | succ n ih =>
    intro hc ho
    unfold cntE
    by_cases e : c = n
    · subst e
      rw [if_neg h1, if_pos h2, cntE_eq c (fun d hd => ho d (by omega) (by omega))]
    · rw [ih (by omega) (fun d hd hne => ho d (by omega) hne), ho n (by omega) (fun q => e q.symm)]
      omega
theorem nI_inj {a b : Nat} (ha : a < 2 ^ 31) (hb : b < 2 ^ 31) (h : nI a = nI b) : a = b := (nI_eq ha hb).mp h
theorem Inv.InC {S : St} {sp nc nt ne m : Nat} (h : Inv S sp nc nt ne m) : ∀ c, c < nc → InS (S (13 + 8 * c + 0)) := fun c hc => by
  obtain ⟨a, ha, e⟩ := (h.2.2.1 c hc).1
  exact ⟨a, by have := h.1.1.2.2.1; omega, e⟩
theorem Inv.InT {S : St} {sp nc nt ne m : Nat} (h : Inv S sp nc nt ne m) : ∀ t, t < nt → InS (S (125 + 8 * t + 0)) := fun t ht => by
  obtain ⟨a, ha, e⟩ := (h.2.2.2 t ht).1
  exact ⟨a, by have := h.1.1.2.2.1; omega, e⟩
theorem i01 : ¬ (0 : Int32) = 1 := by decide
theorem i02 : ¬ (0 : Int32) = 2 := by decide
theorem i03 : ¬ (0 : Int32) = 3 := by decide
theorem i12 : ¬ (1 : Int32) = 2 := by decide
theorem i13 : ¬ (1 : Int32) = 3 := by decide
theorem i10 : ¬ (1 : Int32) = 0 := by decide
theorem i20 : ¬ (2 : Int32) = 0 := by decide
theorem i21 : ¬ (2 : Int32) = 1 := by decide
theorem i23 : ¬ (2 : Int32) = 3 := by decide
theorem i30 : ¬ (3 : Int32) = 0 := by decide
theorem i31 : ¬ (3 : Int32) = 1 := by decide
theorem i32' : ¬ (3 : Int32) = 2 := by decide
/-- what a busy team has -/
theorem tmI.busy {S : St} {sp nc t : Nat} (h : tmI S sp nc t) (h0 : ¬ S (125 + 8 * t + 2) = 0) (h3 : ¬ S (125 + 8 * t + 2) = 3) : (S (125 + 8 * t + 2) = 1 ∨ S (125 + 8 * t + 2) = 2) ∧ ∃ c, c < nc ∧ S (125 + 8 * t + 4) = nI c ∧ S (13 + 8 * c + 4) = 1 ∧ S (13 + 8 * c + 5) = nI t := by
  rcases h.2.2 with ⟨d | d, -⟩ | d
  · exact absurd d h0
  · exact absurd d h3
  · exact d
/-- cold -/
theorem inv_cold {S : St} {sp nc nt ne m c k : Nat} (h : Inv S sp nc nt ne m) (hk : k ≤ 20) (hc : c < 14) : Inv (upd S (13 + 8 * c + 2) (nI k)) sp nc nt ne m := by
  refine ⟨hdI_eq (fun i hi _ _ => upd_ne _ _ (by omega)) h.1, by rw [cntE_eq nc (fun d hd => upd_ne _ _ (by omega))]; exact h.2.1, fun d hd => ?_, fun t ht => ?_⟩
  · by_cases e : d = c
    · subst e
      obtain ⟨a, b, -, f, g⟩ := h.2.2.1 d hd
      unfold chI
      rw [upd_ne _ _ (by omega), upd_ne _ _ (by omega), upd_self, upd_ne _ _ (by omega), upd_ne _ _ (by omega)]
      exact ⟨a, b, ⟨k, hk, rfl⟩, f, g⟩
    · exact chI_eq (upd_ne _ _ (by omega)) (upd_ne _ _ (by omega)) (upd_ne _ _ (by omega)) (upd_ne _ _ (by omega)) (upd_ne _ _ (by omega)) (h.2.2.1 d hd)
  · have := h.1.2.2.1
    have := h.1.2.2.2.2.1
    exact tmI_eq (upd_ne _ _ (by omega)) (upd_ne _ _ (by omega)) (upd_ne _ _ (by omega)) (upd_ne _ _ (by omega)) (fun d hd a b => by rw [upd_ne _ _ (by omega), upd_ne _ _ (by omega)]; exact ⟨a, b⟩) (h.2.2.2 t ht)
theorem min20 : ∀ k, k < 21 → (if nI k + 1 < 20 then nI k + 1 else 20) = nI (min 20 (k + 1)) := by decide +kernel
theorem sub6 : ∀ k, k < 31 → (if 0 < nI k - 6 then nI k - 6 else 0) = nI (k - 6) := by decide +kernel
theorem min30 : ∀ k, k < 31 → ∀ r, r < 5 → (if nI k + nI r < 30 then nI k + nI r else 30) = nI (min 30 (k + r)) := by decide +kernel
theorem inv_cold1 {S : St} {sp nc nt ne m c : Nat} (h : Inv S sp nc nt ne m) (hc : c < nc) : Inv (cold1 S c) sp nc nt ne m := by
  unfold cold1
  have hm := h.1.2.2.1
  split
  · exact h
  · obtain ⟨k, hk, e⟩ := (h.2.2.1 c hc).2.2.1
    rw [e, min20 k (by omega)]
    exact inv_cold h (by omega) (by omega)
theorem inv_coldS {S : St} {sp nc nt ne m : Nat} (h : Inv S sp nc nt ne m) : ∀ n, n ≤ nc → Inv (coldS S n) sp nc nt ne m := by
  intro n
  induction n with
  | zero => intro _; exact h
  | succ n ih => intro hn; exact inv_cold1 (ih (by omega)) (by omega)
/-- a team's numbers that no one reads here -/
theorem inv_tm {S : St} {sp nc nt ne m t k : Nat} {x : Int32} (h : Inv S sp nc nt ne m) (ht : t < 4) (hk : k = 3 ∨ k = 5 ∨ k = 6 ∨ k = 7) : Inv (upd S (125 + 8 * t + k) x) sp nc nt ne m := by
  have h14 := h.1.2.2.1
  refine ⟨hdI_eq (fun i hi _ _ => upd_ne _ _ (by omega)) h.1, by rw [cntE_eq nc (fun d hd => upd_ne _ _ (by omega))]; exact h.2.1, fun d hd => ?_, fun u hu => ?_⟩
  · exact chI_eq (upd_ne _ _ (by omega)) (upd_ne _ _ (by omega)) (upd_ne _ _ (by omega)) (upd_ne _ _ (by omega)) (upd_ne _ _ (by omega)) (h.2.2.1 d hd)
  · exact tmI_eq (upd_ne _ _ (by omega)) (upd_ne _ _ (by omega)) (upd_ne _ _ (by omega)) (upd_ne _ _ (by omega)) (fun d hd a b => by rw [upd_ne _ _ (by omega), upd_ne _ _ (by omega)]; exact ⟨a, b⟩) (h.2.2.2 u hu)
theorem inv_go2 {S : St} {sp nc nt ne m t : Nat} (h : Inv S sp nc nt ne m) (ht : t < 4) : Inv (go2 (go1 S t) t) sp nc nt ne m := by
  have h1 : Inv (go1 S t) sp nc nt ne m := by
    unfold go1
    split
    · exact inv_tm h ht (by omega)
    · exact h
  exact inv_tm h1 ht (by omega)
/-- a team t changes, and nothing else but what others don't read -/
theorem inv_team {S S' : St} {sp nc nt ne m t : Nat} (h : Inv S sp nc nt ne m) (ht : t < nt) (ho : ∀ i, i < 125 + 8 * t ∨ 125 + 8 * t + 8 ≤ i → S' i = S i) (hT : tmI S' sp nc t) : Inv S' sp nc nt ne m := by
  have h14 := h.1.2.2.1
  refine ⟨hdI_eq (fun i hi _ _ => ho i (by omega)) h.1, by rw [cntE_eq nc (fun d hd => ho _ (by omega))]; exact h.2.1, fun d hd => ?_, fun u hu => ?_⟩
  · exact chI_eq (ho _ (by omega)) (ho _ (by omega)) (ho _ (by omega)) (ho _ (by omega)) (ho _ (by omega)) (h.2.2.1 d hd)
  · by_cases e : u = t
    · rw [e]; exact hT
    · exact tmI_eq (ho _ (by omega)) (ho _ (by omega)) (ho _ (by omega)) (ho _ (by omega)) (fun d hd a b => by rw [ho _ (by omega), ho _ (by omega)]; exact ⟨a, b⟩) (h.2.2.2 u hu)
theorem inv_rest {S : St} {sp nc nt ne m t : Nat} (h : Inv S sp nc nt ne m) (ht : t < nt) : Inv (restS S t) sp nc nt ne m := by
  obtain ⟨a, ⟨k, hk, e⟩, -⟩ := h.2.2.2 t ht
  refine inv_team h ht (fun i hi => ?_) ?_
  · unfold restS
    rw [upd_ne _ _ (by omega), idleS_ne (by omega)]
  · unfold tmI restS
    rw [idleS_ne (i := 125 + 8 * t + 1) (by omega), e, sub6 k (by omega)]
    refine ⟨?_, ⟨k - 6, by omega, upd_self _ _ _⟩, Or.inl ⟨Or.inl ?_, ?_⟩⟩
    · rw [upd_ne _ _ (by omega), idleS_ne (by omega)]; exact a
    · rw [upd_ne _ _ (by omega), idleS, upd_ne _ _ (by omega), upd_ne _ _ (by omega), upd_self]
    · rw [upd_ne _ _ (by omega), idleS, upd_self]
theorem inv_bring {S : St} {sp nc nt ne m t c : Nat} {tn : Int32} (h : Inv S sp nc nt ne m) (ht : t < nt) (hc : c < nc) (h4 : S (125 + 8 * t + 4) = nI c) (h5 : S (13 + 8 * c + 4) = 1) (h6 : S (13 + 8 * c + 5) = nI t) : Inv (bringS S nt t c tn) sp nc nt ne m := by
  obtain ⟨a, b, -⟩ := h.2.2.2 t ht
  have h14 := h.1.2.2.1
  refine inv_team h ht (fun i hi => ?_) ?_
  · unfold bringS
    rw [upd_ne _ _ (by omega), upd_ne _ _ (by omega), upd_ne _ _ (by omega)]
  · have e0 : bringS S nt t c tn (125 + 8 * t + 0) = S (13 + 8 * c + 0) := by
      unfold bringS
      rw [upd_ne _ _ (by omega), upd_ne _ _ (by omega), upd_self]
    have e1 : bringS S nt t c tn (125 + 8 * t + 1) = S (125 + 8 * t + 1) := by
      unfold bringS
      rw [upd_ne _ _ (by omega), upd_ne _ _ (by omega), upd_ne _ _ (by omega)]
    have e2 : bringS S nt t c tn (125 + 8 * t + 2) = 2 := by
      unfold bringS
      rw [upd_self]
    have e3 : ∀ i, i < 125 → bringS S nt t c tn i = S i := fun i hi => by
      unfold bringS
      rw [upd_ne _ _ (by omega), upd_ne _ _ (by omega), upd_ne _ _ (by omega)]
    have e4 : bringS S nt t c tn (125 + 8 * t + 4) = nI c := by
      unfold bringS
      rw [upd_ne _ _ (by omega), upd_ne _ _ (by omega), upd_ne _ _ (by omega)]
      exact h4
    unfold tmI
    rw [e0, e1, e2, e4]
    exact ⟨(h.2.2.1 c hc).1, b, Or.inr ⟨Or.inr rfl, c, hc, rfl, by rw [e3 _ (by omega)]; exact h5, by rw [e3 _ (by omega)]; exact h6⟩⟩
/-- a chair is emptied: what is where afterwards -/
theorem fin8_ne {S : St} {t i : Nat} (h : i ≠ 125 + 8 * t + 2) (h2 : i ≠ 125 + 8 * t + 3) : fn8 S t i = S i := by
  unfold fn8
  split
  · rfl
  · rw [upd_ne _ _ h2, upd_ne _ _ h]
theorem finS_out {S : St} {t c ne i : Nat} (hne : S 12 = nI ne) (hn : ne < 14) (h1 : i ≠ 10) (h2 : i ≠ 11) (h3 : i ≠ 12) (h4 : i ≠ 157 + ne) (h5 : i ≠ 13 + 8 * c + 4) (h6 : i ≠ 13 + 8 * c + 6) (h7 : i < 125 + 8 * t + 1 ∨ 125 + 8 * t + 6 < i) : finS S t c i = S i := by
  unfold finS
  have e : (fn1 (fin0 S c) c (S 9 + 1)) 12 = nI ne := by
    unfold fn1
    rw [upd_ne _ _ (by omega), upd_ne _ _ (by omega), fin0_ne (by omega) (by omega)]
    exact hne
  rw [fin8_ne (by omega) (by omega), idleS_ne (by omega)]
  unfold fn6 fn5 fn4 fn3 fn2
  rw [upd_ne _ _ (by omega), upd_ne _ _ (by omega), upd_ne _ _ (by omega), upd_ne _ _ (by omega), e, nI_clamp (by omega), upd_ne _ _ (by omega)]
  unfold fn1
  rw [upd_ne _ _ (by omega), upd_ne _ _ (by omega), fin0_ne (by omega) (by omega)]
theorem finS_at {S : St} {t c ne : Nat} (hne : S 12 = nI ne) (hn : ne < 14) (ht : t < 4) (hc : c < 14) : finS S t c 12 = nI (ne + 1) ∧ finS S t c (13 + 8 * c + 4) = 2 ∧ finS S t c (125 + 8 * t + 4) = -1 ∧ finS S t c (125 + 8 * t + 1) = (if S (125 + 8 * t + 1) + S (13 + 8 * c + 1) < 30 then S (125 + 8 * t + 1) + S (13 + 8 * c + 1) else 30) ∧ (finS S t c (125 + 8 * t + 2) = 0 ∨ finS S t c (125 + 8 * t + 2) = 3) := by
  have e : (fn1 (fin0 S c) c (S 9 + 1)) 12 = nI ne := by
    unfold fn1
    rw [upd_ne _ _ (by omega), upd_ne _ _ (by omega), fin0_ne (by omega) (by omega)]
    exact hne
  refine ⟨?_, ?_, ?_, ?_, ?_⟩
  · unfold finS
    rw [fin8_ne (by omega) (by omega), idleS_ne (by omega)]
    unfold fn6 fn5 fn4
    rw [upd_ne _ _ (by omega), upd_ne _ _ (by omega), upd_ne _ _ (by omega), fn3, upd_self, fn2, e, nI_clamp (by omega), upd_ne _ _ (by omega), e, nI_1]
  · unfold finS
    rw [fin8_ne (by omega) (by omega), idleS_ne (by omega)]
    unfold fn6 fn5 fn4 fn3 fn2
    rw [upd_ne _ _ (by omega), upd_ne _ _ (by omega), upd_ne _ _ (by omega), upd_ne _ _ (by omega), e, nI_clamp (by omega), upd_ne _ _ (by omega), fn1, upd_ne _ _ (by omega), upd_self]
  · unfold finS
    rw [fin8_ne (by omega) (by omega), idleS, upd_self]
  · unfold finS
    rw [fin8_ne (by omega) (by omega), idleS_ne (by omega), fn6, upd_self]
    have a : ∀ i, (i = 125 + 8 * t + 1 ∨ i = 13 + 8 * c + 1) → fn5 (fn4 (fn3 (fn2 (fn1 (fin0 S c) c (S 9 + 1)) t)) t) t c i = S i := by
      intro i hi
      unfold fn5 fn4 fn3 fn2
      rw [upd_ne _ _ (by omega), upd_ne _ _ (by omega), upd_ne _ _ (by omega), e, nI_clamp (by omega), upd_ne _ _ (by omega), fn1, upd_ne _ _ (by omega), upd_ne _ _ (by omega), fin0_ne (by omega) (by omega)]
    rw [a _ (Or.inl rfl), a _ (Or.inr rfl)]
  · unfold finS
    generalize fn6 (fn5 (fn4 (fn3 (fn2 (fn1 (fin0 S c) c (S 9 + 1)) t)) t) t c) t c = Z
    unfold fn8
    split
    · exact Or.inl (by rw [idleS, upd_ne _ _ (by omega), upd_ne _ _ (by omega), upd_self])
    · exact Or.inr (by rw [upd_ne _ _ (by omega), upd_self])
theorem inv_fin {S : St} {sp nc nt ne m t c : Nat} (h : Inv S sp nc nt ne m) (ht : t < nt) (hc : c < nc) (h5 : S (13 + 8 * c + 4) = 1) (h6 : S (13 + 8 * c + 5) = nI t) : Inv (finS S t c) sp nc nt (ne + 1) m ∧ ne < nc := by
  obtain ⟨⟨⟨a1, a2, a3, a4⟩, b1, b2, b3, b4, b5, b6⟩, hE, hC, hT⟩ := id h
  have hlt : ne < nc := by rw [hE]; exact cntE_lt nc c hc (by rw [h5]; exact i12)
  have hne : ne < 14 := by omega
  have out : ∀ i, i ≠ 10 → i ≠ 11 → i ≠ 12 → i ≠ 157 + ne → i ≠ 13 + 8 * c + 4 → i ≠ 13 + 8 * c + 6 → (i < 125 + 8 * t + 1 ∨ 125 + 8 * t + 6 < i) → finS S t c i = S i := fun i q1 q2 q3 q4 q5 q6 q7 => finS_out b6 hne q1 q2 q3 q4 q5 q6 q7
  obtain ⟨f12, f4, fh, f1, f2⟩ := finS_at (t := t) (c := c) b6 hne (by omega) (by omega)
  refine ⟨⟨⟨⟨?_, a2, a3, fun k hk => ?_⟩, ?_, b2, ?_, b4, ?_, f12⟩, ?_, fun d hd => ?_, fun u hu => ?_⟩, hlt⟩
  · rw [out 0 (by omega) (by omega) (by omega) (by omega) (by omega) (by omega) (by omega)]; exact a1
  · rw [out (1 + k) (by omega) (by omega) (by omega) (by omega) (by omega) (by omega) (by omega)]; exact a4 k hk
  · rw [out 7 (by omega) (by omega) (by omega) (by omega) (by omega) (by omega) (by omega)]; exact b1
  · rw [out 8 (by omega) (by omega) (by omega) (by omega) (by omega) (by omega) (by omega)]; exact b3
  · rw [out 9 (by omega) (by omega) (by omega) (by omega) (by omega) (by omega) (by omega)]; exact b5
  · rw [hE]
    exact (cntE_up (by rw [h5]; exact i12) f4 nc hc (fun d hd hdc => out _ (by omega) (by omega) (by omega) (by omega) (by omega) (by omega) (by omega))).symm
  · by_cases e : d = c
    · subst e
      obtain ⟨c0, c1, c2, c3, -⟩ := hC d hd
      unfold chI
      rw [f4, out (13 + 8 * d + 0) (by omega) (by omega) (by omega) (by omega) (by omega) (by omega) (by omega), out (13 + 8 * d + 1) (by omega) (by omega) (by omega) (by omega) (by omega) (by omega) (by omega), out (13 + 8 * d + 2) (by omega) (by omega) (by omega) (by omega) (by omega) (by omega) (by omega), out (13 + 8 * d + 3) (by omega) (by omega) (by omega) (by omega) (by omega) (by omega) (by omega)]
      exact ⟨c0, c1, c2, c3, Or.inr (Or.inr rfl)⟩
    · exact chI_eq (out _ (by omega) (by omega) (by omega) (by omega) (by omega) (by omega) (by omega)) (out _ (by omega) (by omega) (by omega) (by omega) (by omega) (by omega) (by omega)) (out _ (by omega) (by omega) (by omega) (by omega) (by omega) (by omega) (by omega)) (out _ (by omega) (by omega) (by omega) (by omega) (by omega) (by omega) (by omega)) (out _ (by omega) (by omega) (by omega) (by omega) (by omega) (by omega) (by omega)) (hC d hd)
  · by_cases e : u = t
    · subst e
      obtain ⟨t0, ⟨k, hk, t1⟩, -⟩ := hT u hu
      obtain ⟨r, r1, r2, r3⟩ := (hC c hc).2.1
      unfold tmI
      rw [fh, f1, t1, r3, min30 k (by omega) r (by omega), out (125 + 8 * u + 0) (by omega) (by omega) (by omega) (by omega) (by omega) (by omega) (by omega)]
      exact ⟨t0, ⟨_, by omega, rfl⟩, Or.inl ⟨f2, rfl⟩⟩
    · refine tmI_eq (out _ (by omega) (by omega) (by omega) (by omega) (by omega) (by omega) (by omega)) (out _ (by omega) (by omega) (by omega) (by omega) (by omega) (by omega) (by omega)) (out _ (by omega) (by omega) (by omega) (by omega) (by omega) (by omega) (by omega)) (out _ (by omega) (by omega) (by omega) (by omega) (by omega) (by omega) (by omega)) (fun d hd p q => ?_) (hT u hu)
      have hdc : d ≠ c := by
        intro z
        subst z
        rw [h6] at q
        exact e (nI_inj (by omega) (by omega) q).symm
      rw [out (13 + 8 * d + 4) (by omega) (by omega) (by omega) (by omega) (by omega) (by omega) (by omega), out (13 + 8 * d + 5) (by omega) (by omega) (by omega) (by omega) (by omega) (by omega) (by omega)]
      exact ⟨p, q⟩
