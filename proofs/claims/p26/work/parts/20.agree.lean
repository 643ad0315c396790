/-! TWO ROWS OF NUMBERS THAT AGREE WHERE IT COUNTS GO ON AGREEING -/
section AG
variable {a b : St} {nc nt ne : Nat}
theorem Ag.symm (h : Ag nc nt ne a b) : Ag nc nt ne b a := fun i hi => (h i hi).symm
theorem Ag.refl (a : St) : Ag nc nt ne a a := fun _ _ => rfl
theorem Ag.trans {c : St} (h : Ag nc nt ne a b) (h2 : Ag nc nt ne b c) : Ag nc nt ne a c := fun i hi => (h i hi).trans (h2 i hi)
theorem Ag.lo (h : Ag nc nt ne a b) {i : Nat} (hi : i < 13) : a i = b i := h i (Or.inl hi)
theorem Ag.ch (h : Ag nc nt ne a b) {c : Nat} (hc : c < nc) {k : Nat} (hk : k < 8) : a (13 + 8 * c + k) = b (13 + 8 * c + k) := h _ (Or.inr (Or.inl ⟨by omega, by omega⟩))
theorem Ag.tm (h : Ag nc nt ne a b) {t : Nat} (ht : t < nt) {k : Nat} (hk : k < 8) : a (125 + 8 * t + k) = b (125 + 8 * t + k) := h _ (Or.inr (Or.inr (Or.inl ⟨by omega, by omega⟩)))
theorem Ag.jn (h : Ag nc nt ne a b) {j : Nat} (hj : j < ne) : a (157 + j) = b (157 + j) := h _ (Or.inr (Or.inr (Or.inr ⟨by omega, by omega⟩)))
theorem Ag.up (h : Ag nc nt ne a b) {i : Nat} {x y : Int32} (hxy : x = y) : Ag nc nt ne (upd a i x) (upd b i y) := fun j hj => by
  show (if j = i then x else a j) = if j = i then y else b j
  by_cases e : j = i
  · rw [if_pos e, if_pos e, hxy]
  · rw [if_neg e, if_neg e, h j hj]
theorem Ag.jr (h : Ag nc nt ne a b) {x y : Int32} (hxy : x = y) : Ag nc nt (ne + 1) (upd a (157 + ne) x) (upd b (157 + ne) y) := fun j hj => by
  show (if j = 157 + ne then x else a j) = if j = 157 + ne then y else b j
  by_cases e : j = 157 + ne
  · rw [if_pos e, if_pos e, hxy]
  · rw [if_neg e, if_neg e, h j (by unfold liveQ at hj ⊢; omega)]
theorem Ag.rk (h : Ag nc nt ne a b) {c : Nat} (hc : c < nc) : rkS a c = rkS b c := by
  unfold rkS
  rw [h.ch hc (by omega), h.ch hc (by omega)]
theorem Ag.wsum (h : Ag nc nt ne a b) (lo : Nat) : ∀ n, lo + n ≤ 6 → waySum a lo n = waySum b lo n := fun n hn => waySum_eq (fun k hk => h.lo (by omega)) lo n hn
theorem Ag.way (h : Ag nc nt ne a b) {x y : Int32} (hx : InS x) (hy : InS y) : wayV a x y = wayV b x y := wayV_eq (fun k hk => h.lo (by omega)) hx hy
theorem Ag.hlp (h : Ag nc nt ne a b) {c : Nat} (hc : c < nc) (tn : Int32) : ∀ n, n ≤ nt → hlpN a c tn n = hlpN b c tn n := by
  intro n
  induction n with
  | zero => intro _; rfl
  | succ n ih =>
    intro hn
    rw [hlpN, hlpN, ih (by omega), hlpB, hlpB, h.tm (t := n) (by omega) (by omega), h.tm (t := n) (by omega) (by omega), h.ch hc (by omega)]
theorem Ag.wk (h : Ag nc nt ne a b) {c : Nat} (hc : c < nc) {tn x y : Int32} (hxy : x = y) : wkS a nt c tn x = wkS b nt c tn y := by
  rw [hxy, wkS, wkS, h.hlp hc tn nt (Nat.le_refl _), wkM, wkM, h.ch hc (by omega)]
theorem Ag.gchs (h : Ag nc nt ne a b) {x : Int32} (hx : InS x) (hC : ∀ c, c < nc → InS (b (13 + 8 * c + 0))) : ∀ n, n ≤ nc → chs a x n = chs b x n := by
  intro n
  induction n with
  | zero => intro _; rfl
  | succ n ih =>
    intro hn
    rw [chs_succ, chs_succ, ih (by omega), h.ch (c := n) (by omega) (by omega), h.rk (c := n) (by omega), h.ch (c := n) (k := 0) (by omega) (by omega), h.way hx (hC n (by omega))]
theorem Ag.gcold1 (h : Ag nc nt ne a b) {c : Nat} (hc : c < nc) : Ag nc nt ne (cold1 a c) (cold1 b c) := by
  unfold cold1
  rw [h.ch hc (by omega), h.ch hc (by omega)]
  split
  · exact h
  · exact h.up rfl
theorem Ag.gcoldS (h : Ag nc nt ne a b) : ∀ n, n ≤ nc → Ag nc nt ne (coldS a n) (coldS b n) := by
  intro n
  induction n with
  | zero => intro _; exact h
  | succ n ih => intro hn; exact (ih (by omega)).gcold1 (by omega)
theorem Ag.gminA (h : Ag nc nt ne a b) (m : Nat) : Ag nc nt ne (minA a m nc) (minA b m nc) := by
  unfold minA
  split
  · exact h.gcoldS nc (Nat.le_refl _)
  · exact h
theorem Ag.idle (h : Ag nc nt ne a b) (t : Nat) : Ag nc nt ne (idleS a t) (idleS b t) := ((h.up rfl).up rfl).up rfl
theorem Ag.bring (h : Ag nc nt ne a b) {t c : Nat} (ht : t < nt) (hc : c < nc) (tn : Int32) : Ag nc nt ne (bringS a nt t c tn) (bringS b nt t c tn) := by
  unfold bringS
  have h1 : Ag nc nt ne (upd a (125 + 8 * t + 0) (a (13 + 8 * c + 0))) (upd b (125 + 8 * t + 0) (b (13 + 8 * c + 0))) := h.up (h.ch hc (by omega))
  exact (h1.up (h1.wk hc (h1.tm ht (by omega)))).up rfl
theorem Ag.gfin0 (h : Ag nc nt ne a b) {c : Nat} (hc : c < nc) : Ag nc nt ne (fin0 a c) (fin0 b c) := by
  unfold fin0
  rw [h.ch hc (by omega), h.lo (i := 9) (by omega)]
  split
  · exact h
  · split
    · exact h.up (by rw [h.lo (by omega)])
    · exact h.up (by rw [h.lo (by omega)])
theorem Ag.fin (h : Ag nc nt ne a b) {t c : Nat} (ht : t < nt) (hc : c < nc) (hne : ne < 14) (e12 : b 12 = nI ne) : Ag nc nt (ne + 1) (finS a t c) (finS b t c) := by
  unfold finS
  have h1 : Ag nc nt ne (fn1 (fin0 a c) c (a 9 + 1)) (fn1 (fin0 b c) c (b 9 + 1)) := ((h.gfin0 hc).up rfl).up (by rw [h.lo (by omega)])
  have e12b : fn1 (fin0 b c) c (b 9 + 1) 12 = nI ne := by
    unfold fn1
    rw [upd_ne _ _ (by omega), upd_ne _ _ (by omega), fin0_ne (by omega) (by omega)]
    exact e12
  generalize fn1 (fin0 a c) c (a 9 + 1) = a1 at h1 ⊢
  generalize fn1 (fin0 b c) c (b 9 + 1) = b1 at h1 e12b ⊢
  have h2 : Ag nc nt (ne + 1) (fn2 a1 t) (fn2 b1 t) := by
    unfold fn2
    rw [h1.lo (i := 12) (by omega), e12b, nI_clamp (by omega)]
    exact h1.jr (h1.tm ht (by omega))
  generalize fn2 a1 t = a2 at h2 ⊢
  generalize fn2 b1 t = b2 at h2 ⊢
  have h3 : Ag nc nt (ne + 1) (fn3 a2) (fn3 b2) := h2.up (by rw [h2.lo (by omega)])
  generalize fn3 a2 = a3 at h3 ⊢
  generalize fn3 b2 = b3 at h3 ⊢
  have h4 : Ag nc nt (ne + 1) (fn4 a3 t) (fn4 b3 t) := h3.up (by rw [h3.tm ht (by omega)])
  generalize fn4 a3 t = a4 at h4 ⊢
  generalize fn4 b3 t = b4 at h4 ⊢
  have h5 : Ag nc nt (ne + 1) (fn5 a4 t c) (fn5 b4 t c) := h4.up (by rw [h4.tm ht (by omega), h4.ch hc (by omega)])
  generalize fn5 a4 t c = a5 at h5 ⊢
  generalize fn5 b4 t c = b5 at h5 ⊢
  have h6 : Ag nc nt (ne + 1) (fn6 a5 t c) (fn6 b5 t c) := h5.up (by rw [h5.tm ht (by omega), h5.ch hc (by omega)])
  have h7 := h6.idle t
  generalize idleS (fn6 a5 t c) t = a7 at h7 ⊢
  generalize idleS (fn6 b5 t c) t = b7 at h7 ⊢
  unfold fn8
  rw [h7.tm ht (by omega)]
  split
  · exact h7
  · exact (h7.up rfl).up rfl
theorem Ag.rest (h : Ag nc nt ne a b) {t : Nat} (ht : t < nt) : Ag nc nt ne (restS a t) (restS b t) := by
  unfold restS
  exact (h.idle t).up (by rw [(h.idle t).tm ht (by omega)])
/-- a team's minute -/
theorem Ag.go {sp m t : Nat} (h : Ag nc nt ne a b) (hI : Inv b sp nc nt ne m) (ht : t < nt) : ∃ ne', Ag nc nt ne' (goS a nt t) (goS b nt t) ∧ Inv (goS b nt t) sp nc nt ne' m := by
  have hnt := hI.n4
  have hnc := hI.n14
  unfold goS
  rw [h.tm ht (k := 2) (by omega)]
  by_cases hz : b (125 + 8 * t + 2) = 0
  · rw [if_pos hz, if_pos hz]
    exact ⟨ne, h, hI⟩
  · rw [if_neg hz, if_neg hz]
    have hA : Ag nc nt ne (go2 (go1 a t) t) (go2 (go1 b t) t) := by
      have h1 : Ag nc nt ne (go1 a t) (go1 b t) := by
        unfold go1
        rw [h.tm ht (k := 2) (by omega)]
        split
        · exact h.up (by rw [h.tm ht (by omega)])
        · exact h
      exact h1.up (by rw [h1.tm ht (by omega)])
    have IA := inv_go2 hI (t := t) (by omega)
    rw [← go12_ne (S := b) (t := t) (i := 125 + 8 * t + 2) (by omega) (by omega)] at hz
    generalize go2 (go1 a t) t = A at hA ⊢
    generalize go2 (go1 b t) t = B at hA IA hz ⊢
    unfold go3
    rw [hA.tm ht (k := 3) (by omega), hA.tm ht (k := 2) (by omega), hA.tm ht (k := 4) (by omega)]
    by_cases h3 : B (125 + 8 * t + 3) ≤ 0
    · rw [if_pos h3, if_pos h3]
      by_cases r : B (125 + 8 * t + 2) = 3
      · rw [if_pos r, if_pos r]
        exact ⟨ne, hA.rest ht, inv_rest IA ht⟩
      · rw [if_neg r, if_neg r]
        obtain ⟨-, c, hc, e4, e5, e6⟩ := (IA.2.2.2 t ht).busy hz r
        rw [e4, cnt, nI_clamp (by omega)]
        by_cases r1 : B (125 + 8 * t + 2) = 1
        · rw [if_pos r1, if_pos r1]
          exact ⟨ne, hA.bring ht hc _, inv_bring IA ht hc e4 e5 e6⟩
        · rw [if_neg r1, if_neg r1]
          obtain ⟨i1, i2⟩ := inv_fin IA ht hc e5 e6
          exact ⟨ne + 1, hA.fin ht hc (by omega) IA.c12, i1⟩
    · rw [if_neg h3, if_neg h3]
      exact ⟨ne, hA, IA⟩
theorem Ag.take {sp m t : Nat} (h : Ag nc nt ne a b) (hI : Inv b sp nc nt ne m) (ht : t < nt) : Ag nc nt ne (takeS a nc nt t) (takeS b nc nt t) := by
  have hnc := hI.n14
  unfold takeS
  rw [h.tm ht (k := 2) (by omega), h.tm ht (k := 0) (by omega), h.gchs (hI.InT t ht) hI.InC nc (Nat.le_refl _)]
  split
  · rcases chs_in b (b (125 + 8 * t + 0)) nc (by omega) with hp | ⟨c, hc, hp, h0⟩
    · rw [if_pos hp, if_pos hp]; exact h
    · rw [if_neg (by rw [hp]; exact nI_ne_m1 (by omega)), if_neg (by rw [hp]; exact nI_ne_m1 (by omega)), hp, cnt, nI_clamp (by omega)]
      have hT : Ag nc nt ne (takS a t c) (takS b t c) := ((h.up rfl).up rfl).up rfl
      have q0 : takS b t c (125 + 8 * t + 0) = b (125 + 8 * t + 0) := tak_ne (by omega) (by omega) (by omega)
      have qc : takS b t c (13 + 8 * c + 0) = b (13 + 8 * c + 0) := tak_ne (by omega) (by omega) (by omega)
      unfold tak2
      rw [hT.tm ht (k := 0) (by omega), hT.ch hc (k := 0) (by omega), hT.way (by rw [q0]; exact hI.InT t ht) (by rw [qc]; exact hI.InC c hc)]
      split
      · exact hT.bring ht hc _
      · exact (hT.up rfl).up rfl
  · exact h
theorem Ag.ggoN {sp m : Nat} (h : Ag nc nt ne a b) (hI : Inv b sp nc nt ne m) : ∀ t, t ≤ nt → ∃ ne', Ag nc nt ne' (goN a nt t) (goN b nt t) ∧ Inv (goN b nt t) sp nc nt ne' m := by
  intro t
  induction t with
  | zero => intro _; exact ⟨ne, h, hI⟩
  | succ t ih =>
    intro ht
    obtain ⟨ne', a1, a2⟩ := ih (by omega)
    exact a1.go a2 (by omega)
theorem Ag.gtakN {sp m : Nat} (h : Ag nc nt ne a b) (hI : Inv b sp nc nt ne m) : ∀ t, t ≤ nt → Ag nc nt ne (takN a nc nt t) (takN b nc nt t) := by
  intro t
  induction t with
  | zero => intro _; exact h
  | succ t ih =>
    intro ht
    exact (ih (by omega)).take (inv_takN hI t (by omega)) (by omega)
theorem Ag.min {sp m : Nat} (h : Ag nc nt ne a b) (hI : Inv b sp nc nt ne m) : ∃ ne', Ag nc nt ne' (minS a m nc nt) (minS b m nc nt) ∧ Inv (minS b m nc nt) sp nc nt ne' (m + 1) := by
  obtain ⟨ne', a1, a2⟩ := (h.gminA m).ggoN (inv_minA hI) nt (Nat.le_refl _)
  exact ⟨ne', (a1.gtakN a2 nt (Nat.le_refl _)).up rfl, inv_9 (inv_takN a2 nt (Nat.le_refl _))⟩
theorem Ag.run {sp : Nat} : ∀ (f : Nat) {a b : St} {nc nt ne m : Nat}, Ag nc nt ne a b → Inv b sp nc nt ne m → ∃ ne', Ag nc nt ne' (runS nc nt f a m).1 (runS nc nt f b m).1 ∧ (runS nc nt f a m).2 = (runS nc nt f b m).2 ∧ Inv (runS nc nt f b m).1 sp nc nt ne' (m + (runS nc nt f b m).2) := by
  intro f
  induction f with
  | zero => intro a b nc nt ne m h hI; exact ⟨ne, h, rfl, hI⟩
  | succ f ih =>
    intro a b nc nt ne m h hI
    unfold runS
    rw [h.lo (i := 7) (by omega), h.lo (i := 12) (by omega)]
    by_cases q : b 7 ≤ b 12
    · rw [if_pos q, if_pos q]; exact ⟨ne, h, rfl, hI⟩
    · rw [if_neg q, if_neg q]
      obtain ⟨ne1, a1, a2⟩ := h.min hI
      obtain ⟨ne2, b1, b2, b3⟩ := ih a1 a2
      exact ⟨ne2, b1, by rw [b2], by rw [show m + ((runS nc nt f (minS b m nc nt) (m + 1)).2 + 1) = m + 1 + (runS nc nt f (minS b m nc nt) (m + 1)).2 by omega]; exact b3⟩
end AG
/-! with no team nothing is ever emptied -/
theorem min_0 {S : St} {m nc i : Nat} (h : i = 7 ∨ i = 12 ∨ ∃ c, i = 13 + 8 * c + 6) : minS S m nc 0 i = S i := by
  have h9 : i ≠ 9 := by rcases h with h | h | ⟨c, h⟩ <;> omega
  unfold minS
  rw [upd_ne _ _ h9]
  show minA S m nc i = S i
  unfold minA
  split
  · have : ∀ n, coldS S n i = S i := by
      intro n
      induction n with
      | zero => rfl
      | succ n ih =>
        rw [coldS_s, cold1]
        split
        · exact ih
        · rw [upd_ne _ _ (by rcases h with h | h | ⟨c, h⟩ <;> omega)]; exact ih
    exact this nc
  · rfl
theorem run_0 {nc : Nat} : ∀ (f : Nat) (S : St) (m i : Nat), (i = 7 ∨ i = 12 ∨ ∃ c, i = 13 + 8 * c + 6) → (runS nc 0 f S m).1 i = S i := by
  intro f
  induction f with
  | zero => intro S m i _; rfl
  | succ f ih =>
    intro S m i h
    unfold runS
    split
    · rfl
    · rw [ih _ _ _ h, min_0 h]
theorem out_0 {nc m : Nat} {S : St} : outI (runS nc 0 1000 S m) = outI (S, 0) := by
  by_cases h : S 7 ≤ S 12
  · rw [show runS nc 0 1000 S m = (S, 0) from if_pos h]
  · unfold outI
    rw [run_0 _ _ _ _ (Or.inl rfl), run_0 _ _ _ _ (Or.inr (Or.inl rfl)), if_neg h, if_neg h]
/-- what the drill's look ahead finds, and the reference's -/
theorem fc_out {S S0 S1 : St} {sp nc nt ne m : Nat} (h : Ag nc nt ne S0 S) (hI : Inv S sp nc nt ne m) : outI (fcS S1 S0 m nc nt) = outI (runS nc nt 1000 S m) := by
  have hc : Ag nc nt ne (cpS S1 S0 nc nt) S := (cp_ag (by have := hI.nle; have := hI.n14; omega)).trans h
  unfold fcS rnS
  by_cases h0 : nt = 0
  · rw [if_pos h0]
    subst h0
    rw [out_0]
    show (if cpS S1 S0 nc 0 7 ≤ cpS S1 S0 nc 0 12 then nI 0 else -1) = if S 7 ≤ S 12 then nI 0 else -1
    rw [hc.lo (i := 7) (by omega), hc.lo (i := 12) (by omega)]
  · rw [if_neg h0]
    obtain ⟨ne', a1, a2, a3⟩ := hc.run 1000 hI
    unfold outI
    rw [a1.lo (i := 7) (by omega), a1.lo (i := 12) (by omega), a2]
theorem fc_at {S S0 S1 : St} {sp nc nt ne m : Nat} (h : Ag nc nt ne S0 S) (hI : Inv S sp nc nt ne m) {c : Nat} (hc' : c < nc) : (fcS S1 S0 m nc nt).1 (13 + 8 * c + 6) = (runS nc nt 1000 S m).1 (13 + 8 * c + 6) := by
  have hc : Ag nc nt ne (cpS S1 S0 nc nt) S := (cp_ag (by have := hI.nle; have := hI.n14; omega)).trans h
  unfold fcS rnS
  by_cases h0 : nt = 0
  · rw [if_pos h0]
    subst h0
    rw [run_0 _ _ _ _ (Or.inr (Or.inr ⟨c, rfl⟩))]
    exact hc.ch hc' (by omega)
  · rw [if_neg h0]
    obtain ⟨ne', a1, a2, a3⟩ := hc.run 1000 hI
    exact a1.ch hc' (by omega)
