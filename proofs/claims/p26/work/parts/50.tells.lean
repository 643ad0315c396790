/-! WHAT DOESN'T TOUCH WHAT IS FORESEEN: the minutes told, the kept and broken promises, the journal -/
def An (nc nt : Nat) (a b : St) : Prop := ∀ i, liveQ nc nt 0 i → i ≠ 10 → i ≠ 11 → (i < 125 → ∀ c, i ≠ 13 + 8 * c + 7) → a i = b i
theorem An.lo {a b : St} {nc nt : Nat} (h : An nc nt a b) {i : Nat} (hi : i < 13) (h10 : i ≠ 10 := by omega) (h11 : i ≠ 11 := by omega) : a i = b i := h i (Or.inl hi) h10 h11 (fun _ c => by omega)
theorem An.ch {a b : St} {nc nt : Nat} (h : An nc nt a b) {c : Nat} (hc : c < nc) {k : Nat} (hk : k < 8) (h7 : k ≠ 7 := by omega) : a (13 + 8 * c + k) = b (13 + 8 * c + k) := h _ (Or.inr (Or.inl ⟨by omega, by omega⟩)) (by omega) (by omega) (fun _ d => by omega)
theorem An.tm {a b : St} {nc nt : Nat} (h : An nc nt a b) {t : Nat} (ht : t < nt) {k : Nat} (hk : k < 8) : a (125 + 8 * t + k) = b (125 + 8 * t + k) := h _ (Or.inr (Or.inr (Or.inl ⟨by omega, by omega⟩))) (by omega) (by omega) (fun q => by omega)
theorem An.up {a b : St} {nc nt : Nat} (h : An nc nt a b) {i : Nat} {x y : Int32} (hxy : x = y) : An nc nt (upd a i x) (upd b i y) := fun j hj h1 h2 h3 => by
  show (if j = i then x else a j) = if j = i then y else b j
  by_cases e : j = i
  · rw [if_pos e, if_pos e, hxy]
  · rw [if_neg e, if_neg e, h j hj h1 h2 h3]
theorem An.gfin0 {a b : St} {nc nt : Nat} (h : An nc nt a b) {c : Nat} (hc : c < nc) : An nc nt (fin0 a c) (fin0 b c) := fun i h0 h1 h2 h3 => by
  rw [fin0_ne h1 h2, fin0_ne h1 h2]
  exact h i h0 h1 h2 h3
theorem An.rk {a b : St} {nc nt : Nat} (h : An nc nt a b) {c : Nat} (hc : c < nc) : rkS a c = rkS b c := by
  unfold rkS
  rw [h.ch hc (by omega), h.ch hc (by omega)]
theorem An.wsum {a b : St} {nc nt : Nat} (h : An nc nt a b) (lo : Nat) : ∀ n, lo + n ≤ 6 → waySum a lo n = waySum b lo n := fun n hn => waySum_eq (fun k hk => h.lo (by omega)) lo n hn
theorem An.way {a b : St} {nc nt : Nat} (h : An nc nt a b) {x y : Int32} (hx : InS x) (hy : InS y) : wayV a x y = wayV b x y := wayV_eq (fun k hk => h.lo (by omega)) hx hy
theorem An.hlp {a b : St} {nc nt : Nat} (h : An nc nt a b) {c : Nat} (hc : c < nc) (tn : Int32) : ∀ n, n ≤ nt → hlpN a c tn n = hlpN b c tn n := by
  intro n
  induction n with
  | zero => intro _; rfl
  | succ n ih =>
    intro hn
    rw [hlpN, hlpN, ih (by omega), hlpB, hlpB, h.tm (t := n) (by omega) (by omega), h.tm (t := n) (by omega) (by omega), h.ch hc (by omega)]
theorem An.wk {a b : St} {nc nt : Nat} (h : An nc nt a b) {c : Nat} (hc : c < nc) {tn x y : Int32} (hxy : x = y) : wkS a nt c tn x = wkS b nt c tn y := by
  rw [hxy, wkS, wkS, h.hlp hc tn nt (Nat.le_refl _), wkM, wkM, h.ch hc (by omega)]
theorem An.gchs {a b : St} {nc nt : Nat} (h : An nc nt a b) {x : Int32} (hx : InS x) (hC : ∀ c, c < nc → InS (b (13 + 8 * c + 0))) : ∀ n, n ≤ nc → chs a x n = chs b x n := by
  intro n
  induction n with
  | zero => intro _; rfl
  | succ n ih =>
    intro hn
    rw [chs_succ, chs_succ, ih (by omega), h.ch (c := n) (by omega) (by omega), h.rk (c := n) (by omega), h.ch (c := n) (k := 0) (by omega) (by omega), h.way hx (hC n (by omega))]
theorem An.gcold1 {a b : St} {nc nt : Nat} (h : An nc nt a b) {c : Nat} (hc : c < nc) : An nc nt (cold1 a c) (cold1 b c) := by
  unfold cold1
  rw [h.ch hc (by omega), h.ch hc (by omega)]
  split
  · exact h
  · exact h.up rfl
theorem An.gcoldS {a b : St} {nc nt : Nat} (h : An nc nt a b) : ∀ n, n ≤ nc → An nc nt (coldS a n) (coldS b n) := by
  intro n
  induction n with
  | zero => intro _; exact h
  | succ n ih => intro hn; exact (ih (by omega)).gcold1 (by omega)
theorem An.gminA {a b : St} {nc nt : Nat} (h : An nc nt a b) (m : Nat) : An nc nt (minA a m nc) (minA b m nc) := by
  unfold minA
  split
  · exact h.gcoldS nc (Nat.le_refl _)
  · exact h
theorem An.idle {a b : St} {nc nt : Nat} (h : An nc nt a b) (t : Nat) : An nc nt (idleS a t) (idleS b t) := ((h.up rfl).up rfl).up rfl
theorem An.bring {a b : St} {nc nt : Nat} (h : An nc nt a b) {t c : Nat} (ht : t < nt) (hc : c < nc) (tn : Int32) : An nc nt (bringS a nt t c tn) (bringS b nt t c tn) := by
  unfold bringS
  have h1 : An nc nt (upd a (125 + 8 * t + 0) (a (13 + 8 * c + 0))) (upd b (125 + 8 * t + 0) (b (13 + 8 * c + 0))) := h.up (h.ch hc (by omega))
  exact (h1.up (h1.wk hc (h1.tm ht (by omega)))).up rfl
theorem An.fin {a b : St} {nc nt ne : Nat} (h : An nc nt a b) {t c : Nat} (ht : t < nt) (hc : c < nc) (hne : ne < 14) (e12 : b 12 = nI ne) : An nc nt (finS a t c) (finS b t c) := by
  unfold finS
  have h1 : An nc nt (fn1 (fin0 a c) c (a 9 + 1)) (fn1 (fin0 b c) c (b 9 + 1)) := ((h.gfin0 hc).up rfl).up (by rw [h.lo (by omega)])
  have e12b : fn1 (fin0 b c) c (b 9 + 1) 12 = nI ne := by
    unfold fn1
    rw [upd_ne _ _ (by omega), upd_ne _ _ (by omega), fin0_ne (by omega) (by omega)]
    exact e12
  generalize fn1 (fin0 a c) c (a 9 + 1) = a1 at h1 ⊢
  generalize fn1 (fin0 b c) c (b 9 + 1) = b1 at h1 e12b ⊢
  have h2 : An nc nt (fn2 a1 t) (fn2 b1 t) := by
    unfold fn2
    rw [h1.lo (i := 12) (by omega), e12b, nI_clamp (by omega)]
    exact h1.up (h1.tm ht (by omega))
  generalize fn2 a1 t = a2 at h2 ⊢
  generalize fn2 b1 t = b2 at h2 ⊢
  have h3 : An nc nt (fn3 a2) (fn3 b2) := h2.up (by rw [h2.lo (by omega)])
  generalize fn3 a2 = a3 at h3 ⊢
  generalize fn3 b2 = b3 at h3 ⊢
  have h4 : An nc nt (fn4 a3 t) (fn4 b3 t) := h3.up (by rw [h3.tm ht (by omega)])
  generalize fn4 a3 t = a4 at h4 ⊢
  generalize fn4 b3 t = b4 at h4 ⊢
  have h5 : An nc nt (fn5 a4 t c) (fn5 b4 t c) := h4.up (by rw [h4.tm ht (by omega), h4.ch hc (by omega)])
  generalize fn5 a4 t c = a5 at h5 ⊢
  generalize fn5 b4 t c = b5 at h5 ⊢
  have h6 : An nc nt (fn6 a5 t c) (fn6 b5 t c) := h5.up (by rw [h5.tm ht (by omega), h5.ch hc (by omega)])
  have h7 := h6.idle t
  generalize idleS (fn6 a5 t c) t = a7 at h7 ⊢
  generalize idleS (fn6 b5 t c) t = b7 at h7 ⊢
  unfold fn8
  rw [h7.tm ht (by omega)]
  split
  · exact h7
  · exact (h7.up rfl).up rfl
theorem An.rest {a b : St} {nc nt : Nat} (h : An nc nt a b) {t : Nat} (ht : t < nt) : An nc nt (restS a t) (restS b t) := by
  unfold restS
  exact (h.idle t).up (by rw [(h.idle t).tm ht (by omega)])
theorem An.go {a b : St} {nc nt ne : Nat} {sp m t : Nat} (h : An nc nt a b) (hI : Inv b sp nc nt ne m) (ht : t < nt) : ∃ ne', An nc nt (goS a nt t) (goS b nt t) ∧ Inv (goS b nt t) sp nc nt ne' m := by
  have hnt := hI.n4
  have hnc := hI.n14
  unfold goS
  rw [h.tm ht (k := 2) (by omega)]
  by_cases hz : b (125 + 8 * t + 2) = 0
  · rw [if_pos hz, if_pos hz]
    exact ⟨ne, h, hI⟩
  · rw [if_neg hz, if_neg hz]
    have hA : An nc nt (go2 (go1 a t) t) (go2 (go1 b t) t) := by
      have h1 : An nc nt (go1 a t) (go1 b t) := by
        unfold go1
        rw [h.tm ht (k := 2) (by omega)]
        split
        · exact h.up (by rw [h.tm ht (by omega)])
        · exact h
      exact h1.up (by rw [h1.tm ht (by omega)])
    have IA := inv_go2 hI (t := t) (by omega)
    rw [← go12_ne (S := b) (t := t) (i := 125 + 8 * t + 2) (by omega) (by omega)] at hz
    generalize go2 (go1 a t) t = A at hA ⊢
    generalize go2 (go1 b t) t = B at hA IA hz ⊢
    unfold go3
    rw [hA.tm ht (k := 3) (by omega), hA.tm ht (k := 2) (by omega), hA.tm ht (k := 4) (by omega)]
    by_cases h3 : B (125 + 8 * t + 3) ≤ 0
    · rw [if_pos h3, if_pos h3]
      by_cases r : B (125 + 8 * t + 2) = 3
      · rw [if_pos r, if_pos r]
        exact ⟨ne, hA.rest ht, inv_rest IA ht⟩
      · rw [if_neg r, if_neg r]
        obtain ⟨-, c, hc, e4, e5, e6⟩ := (IA.2.2.2 t ht).busy hz r
        rw [e4, cnt, nI_clamp (by omega)]
        by_cases r1 : B (125 + 8 * t + 2) = 1
        · rw [if_pos r1, if_pos r1]
          exact ⟨ne, hA.bring ht hc _, inv_bring IA ht hc e4 e5 e6⟩
        · rw [if_neg r1, if_neg r1]
          obtain ⟨i1, i2⟩ := inv_fin IA ht hc e5 e6
          exact ⟨ne + 1, hA.fin ht hc (by omega) IA.c12, i1⟩
    · rw [if_neg h3, if_neg h3]
      exact ⟨ne, hA, IA⟩
theorem An.take {a b : St} {nc nt ne : Nat} {sp m t : Nat} (h : An nc nt a b) (hI : Inv b sp nc nt ne m) (ht : t < nt) : An nc nt (takeS a nc nt t) (takeS b nc nt t) := by
  have hnc := hI.n14
  unfold takeS
  rw [h.tm ht (k := 2) (by omega), h.tm ht (k := 0) (by omega), h.gchs (hI.InT t ht) hI.InC nc (Nat.le_refl _)]
  split
  · rcases chs_in b (b (125 + 8 * t + 0)) nc (by omega) with hp | ⟨c, hc, hp, h0⟩
    · rw [if_pos hp, if_pos hp]; exact h
    · rw [if_neg (by rw [hp]; exact nI_ne_m1 (by omega)), if_neg (by rw [hp]; exact nI_ne_m1 (by omega)), hp, cnt, nI_clamp (by omega)]
      have hT : An nc nt (takS a t c) (takS b t c) := ((h.up rfl).up rfl).up rfl
      have q0 : takS b t c (125 + 8 * t + 0) = b (125 + 8 * t + 0) := tak_ne (by omega) (by omega) (by omega)
      have qc : takS b t c (13 + 8 * c + 0) = b (13 + 8 * c + 0) := tak_ne (by omega) (by omega) (by omega)
      unfold tak2
      rw [hT.tm ht (k := 0) (by omega), hT.ch hc (k := 0) (by omega), hT.way (by rw [q0]; exact hI.InT t ht) (by rw [qc]; exact hI.InC c hc)]
      split
      · exact hT.bring ht hc _
      · exact (hT.up rfl).up rfl
  · exact h
theorem An.ggoN {a b : St} {nc nt ne : Nat} {sp m : Nat} (h : An nc nt a b) (hI : Inv b sp nc nt ne m) : ∀ t, t ≤ nt → ∃ ne', An nc nt (goN a nt t) (goN b nt t) ∧ Inv (goN b nt t) sp nc nt ne' m := by
  intro t
  induction t with
  | zero => intro _; exact ⟨ne, h, hI⟩
  | succ t ih =>
    intro ht
    obtain ⟨ne', a1, a2⟩ := ih (by omega)
    exact a1.go a2 (by omega)
theorem An.gtakN {a b : St} {nc nt ne : Nat} {sp m : Nat} (h : An nc nt a b) (hI : Inv b sp nc nt ne m) : ∀ t, t ≤ nt → An nc nt (takN a nc nt t) (takN b nc nt t) := by
  intro t
  induction t with
  | zero => intro _; exact h
  | succ t ih =>
    intro ht
    exact (ih (by omega)).take (inv_takN hI t (by omega)) (by omega)
theorem An.min {a b : St} {nc nt ne : Nat} {sp m : Nat} (h : An nc nt a b) (hI : Inv b sp nc nt ne m) : ∃ ne', An nc nt (minS a m nc nt) (minS b m nc nt) ∧ Inv (minS b m nc nt) sp nc nt ne' (m + 1) := by
  obtain ⟨ne', a1, a2⟩ := (h.gminA m).ggoN (inv_minA hI) nt (Nat.le_refl _)
  exact ⟨ne', (a1.gtakN a2 nt (Nat.le_refl _)).up rfl, inv_9 (inv_takN a2 nt (Nat.le_refl _))⟩
theorem An.run {sp : Nat} : ∀ (f : Nat) {a b : St} {nc nt ne m : Nat}, An nc nt a b → Inv b sp nc nt ne m → ∃ ne', An nc nt (runS nc nt f a m).1 (runS nc nt f b m).1 ∧ (runS nc nt f a m).2 = (runS nc nt f b m).2 ∧ Inv (runS nc nt f b m).1 sp nc nt ne' (m + (runS nc nt f b m).2) := by
  intro f
  induction f with
  | zero => intro a b nc nt ne m h hI; exact ⟨ne, h, rfl, hI⟩
  | succ f ih =>
    intro a b nc nt ne m h hI
    unfold runS
    rw [h.lo (i := 7) (by omega), h.lo (i := 12) (by omega)]
    by_cases q : b 7 ≤ b 12
    · rw [if_pos q, if_pos q]; exact ⟨ne, h, rfl, hI⟩
    · rw [if_neg q, if_neg q]
      obtain ⟨ne1, a1, a2⟩ := h.min hI
      obtain ⟨ne2, b1, b2, b3⟩ := ih a1 a2
      exact ⟨ne2, b1, by rw [b2], by rw [show m + ((runS nc nt f (minS b m nc nt) (m + 1)).2 + 1) = m + 1 + (runS nc nt f (minS b m nc nt) (m + 1)).2 by omega]; exact b3⟩
theorem Ag.an {a b : St} {nc nt ne : Nat} (h : Ag nc nt ne a b) : An nc nt a b := fun i hl _ _ _ => h i (by unfold liveQ at hl ⊢; omega)
theorem an_out {a b : St} {sp nc nt ne m : Nat} (h : An nc nt a b) (hI : Inv b sp nc nt ne m) : outI (runS nc nt 1000 a m) = outI (runS nc nt 1000 b m) := by
  obtain ⟨_, a1, a2, _⟩ := An.run 1000 h hI
  unfold outI
  rw [a1.lo (i := 7) (by omega), a1.lo (i := 12) (by omega), a2]
theorem an_at {a b : St} {sp nc nt ne m c : Nat} (h : An nc nt a b) (hI : Inv b sp nc nt ne m) (hc : c < nc) : (runS nc nt 1000 a m).1 (13 + 8 * c + 6) = (runS nc nt 1000 b m).1 (13 + 8 * c + 6) := by
  obtain ⟨_, a1, a2, _⟩ := An.run 1000 h hI
  exact a1.ch hc (by omega)
theorem tell_ne {S T : St} {i : Nat} : ∀ n, (∀ c, c < n → i ≠ 13 + 8 * c + 7) → tellS S T n i = S i := by
  intro n
  induction n with
  | zero => intro _; rfl
  | succ n ih =>
    intro h
    rw [tellS_s]
    split
    · exact ih (fun c hc => h c (by omega))
    · rw [upd_ne _ _ (h n (by omega))]; exact ih (fun c hc => h c (by omega))
theorem tell_an {S T : St} {nc nt : Nat} (hn : nc ≤ 14) : An nc nt (tellS S T nc) S := fun i hl _ _ h7 => tell_ne nc (fun c hc => by
  rcases Nat.lt_or_ge i 125 with q | q
  · exact h7 q c
  · omega)
theorem j2_tell {S T : St} {nc nt : Nat} (hn : nc ≤ 14) (h : J2 S nc nt) (hT : ∀ c, c < nc → mn1 (T (13 + 8 * c + 6))) : ∀ n, n ≤ nc → J2 (tellS S T n) nc nt := by
  intro n
  induction n with
  | zero => intro _; exact h
  | succ n ih =>
    intro hn'
    rw [tellS_s]
    split
    · exact ih (by omega)
    · refine (ih (by omega)).eq (fun c hc => ⟨Or.inl (upd_ne _ _ (by omega)), ?_⟩) (fun t _ => Or.inl ⟨upd_ne _ _ (by omega), upd_ne _ _ (by omega)⟩)
      by_cases q : c = n
      · subst q; exact Or.inr (by rw [upd_self]; exact hT c hc)
      · exact Or.inl (upd_ne _ _ (by omega))
/-! a row of the method's own, behind all else -/
def FA (F : Nat → Option va_E) (a : Nat) (e : va_E) : Nat → Option va_E := fun q => if q = a then some e else F q
section MK
variable {E : EE} {D a n : Nat} {S0 S1 R : St} {Sv : Nat → St} {sc se : Int32} {F : Nat → Option va_E} {e e' : va_E}
theorem mk_dl (h : D + 145 ≤ a) : wup (dl E D S0 S1 Sv sc se 0 (fun _ => 0) (n, FA F a e)) a e' = dl E D S0 S1 Sv sc se 0 (fun _ => 0) (n, FA F a e') := by
  refine dl_ext rfl (fun x hx => ?_) (fun o ho => ?_)
  · show (if x = a then some e' else (dl E D S0 S1 Sv sc se 0 (fun _ => 0) (n, FA F a e)).2 x) = FA F a e' x
    rw [dl_out hx]
    show (if x = a then some e' else (if x = a then some e else F x)) = if x = a then some e' else F x
    by_cases q : x = a
    · rw [if_pos q, if_pos q]
    · rw [if_neg q, if_neg q, if_neg q]
  · show (if D + o = a then some e' else (dl E D S0 S1 Sv sc se 0 (fun _ => 0) (n, FA F a e)).2 (D + o)) = _
    rw [if_neg (by omega), dl_at o ho]
theorem mk_at (h : D + 145 ≤ a) : (lw E (D + 141) R (dl E D S0 S1 Sv sc se 0 (fun _ => 0) (n, FA F a e))).2 a = some e := (lw_out (by omega)).trans ((dl_out (by omega)).trans (if_pos rfl))
theorem mk_up (h : D + 145 ≤ a) : wup (lw E (D + 141) R (dl E D S0 S1 Sv sc se 0 (fun _ => 0) (n, FA F a e))) a e' = lw E (D + 141) R (dl E D S0 S1 Sv sc se 0 (fun _ => 0) (n, FA F a e')) := by
  refine lw_ext rfl (fun x hx => ?_) (fun o ho => ?_)
  · show (if x = a then some e' else (lw E (D + 141) R (dl E D S0 S1 Sv sc se 0 (fun _ => 0) (n, FA F a e))).2 x) = _
    rw [lw_out hx]
    exact congrFun (congrArg Prod.snd (mk_dl (E := E) (S0 := S0) (S1 := S1) (Sv := Sv) (sc := sc) (se := se) (n := n) (F := F) (e := e) (e' := e') h)) x
  · show (if D + 141 + o = a then some e' else (lw E (D + 141) R (dl E D S0 S1 Sv sc se 0 (fun _ => 0) (n, FA F a e))).2 (D + 141 + o)) = _
    rw [if_neg (by omega), lw_at o ho]
theorem mk_new (h : D + 145 ≤ n) : wnew (lw E (D + 141) R (dl E D S0 S1 Sv sc se 0 (fun _ => 0) (n, F))) e = lw E (D + 141) R (dl E D S0 S1 Sv sc se 0 (fun _ => 0) (n + 1, FA F n e)) := by
  refine lw_ext rfl (fun x hx => ?_) (fun o ho => ?_)
  · show (if x = n then some e else (lw E (D + 141) R (dl E D S0 S1 Sv sc se 0 (fun _ => 0) (n, F))).2 x) = _
    rw [lw_out hx]
    by_cases hd : x < D ∨ D + 141 ≤ x
    · rw [dl_out hd, dl_out hd]
      rfl
    · obtain ⟨o, rfl⟩ : ∃ o, x = D + o := ⟨x - D, by omega⟩
      rw [if_neg (by omega), dl_at o (by omega), dl_at o (by omega)]
  · show (if D + 141 + o = n then some e else (lw E (D + 141) R (dl E D S0 S1 Sv sc se 0 (fun _ => 0) (n, F))).2 (D + 141 + o)) = _
    rw [if_neg (by omega), lw_at o ho]
theorem mk_n (hn : Nn (lw E (D + 141) R (dl E D S0 S1 Sv sc se 0 (fun _ => 0) (n, F)))) : D + 145 ≤ n := by
  rcases Nat.lt_or_ge (D + 144) n with q | q
  · omega
  · have := hn (D + 144) q
    rw [show D + 144 = D + 141 + 3 from rfl, lw_j] at this
    exact absurd this (by simp)
theorem mk_less {n' : Nat} (hd : D + 145 ≤ a) (h : F a = none) : ∀ (x : Nat) (y : va_E), (lw E (D + 141) R (dl E D S0 S1 Sv sc se 0 (fun _ => 0) (n', F))).2 x = some y → (lw E (D + 141) R (dl E D S0 S1 Sv sc se 0 (fun _ => 0) (n', FA F a e))).2 x = some y := by
  intro x y hx
  by_cases q : x = a
  · subst q
    rw [lw_out (by omega), dl_out (by omega)] at hx
    exact absurd (h.symm.trans hx) (by simp)
  · by_cases h1 : x < D + 141 ∨ D + 141 + 4 ≤ x
    · rw [lw_out h1] at hx ⊢
      by_cases h2 : x < D ∨ D + 141 ≤ x
      · rw [dl_out h2] at hx ⊢
        show (if x = a then some e else F x) = some y
        rw [if_neg q]
        exact hx
      · obtain ⟨o, rfl⟩ : ∃ o, x = D + o := ⟨x - D, by omega⟩
        rw [dl_at o (by omega)] at hx ⊢
        exact hx
    · obtain ⟨o, rfl⟩ : ∃ o, x = D + 141 + o := ⟨x - (D + 141), by omega⟩
      rw [lw_at o (by omega)] at hx ⊢
      exact hx
theorem mk_none (hd : D + 145 ≤ n) (hn : Nn (lw E (D + 141) R (dl E D S0 S1 Sv sc se 0 (fun _ => 0) (n, F)))) : F n = none := by
  have := hn n (Nat.le_refl _)
  rw [lw_out (by omega), dl_out (by omega)] at this
  exact this
end MK
theorem cpA_in {f g : St} {n i : Nat} (h : i < n) : cpA f g n i = g i := if_pos h
set_option maxRecDepth 100000 in
set_option maxHeartbeats 4000000 in
theorem k_tells {E : EE} {D n : Nat} {S0 S1 R : St} {Sv : Nat → St} {ks e nc nt ne m : Nat} {F : Nat → Option va_E} (hR : Rl S0 R ks e nc nt ne m) : ∃ (S0' S1' : St) (Sv' : Nat → St) (ks' e' : Nat) (R' : St) (nc' nt' ne' m' : Nat), Rl S0' R' ks' e' nc' nt' ne' m' ∧ Cz E mL_tells (lw E (D + 141) R (dl E D S0 S1 Sv (nI ks) (nI e) 0 (fun _ => 0) (n, F))) [.ref D, .ref (D + 141), .ref (D + 141 + 1), .ref (D + 141 + 2)] (some (.int 1)) (lw E (D + 141) R' (dl E D S0' S1' Sv' (nI ks') (nI e') 0 (fun _ => 0) (n, F))) := by
  obtain ⟨hI, hJ, h8, hm, hA, he, hks⟩ := id hR
  have hnt := hI.n4
  have hn := hI.n14
  have hI0 : Inv S0 3 nc nt ne m := hA.inv hI
  obtain ⟨RR, hRR⟩ : ∃ z, z = runS nc nt 1000 (cpy R 64) m := ⟨_, rfl⟩
  have hC : An nc nt (cpy R 64) R := (cpy_ag h8 hnt).an
  have hT : ∀ c, c < nc → (fcS S1 S0 m nc nt).1 (13 + 8 * c + 6) = RR.1 (13 + 8 * c + 6) := fun c hc => by rw [fc_at hA hI hc, hRR, an_at hC hI hc]
  have hT6 : ∀ c, c < nc → mn1 (RR.1 (13 + 8 * c + 6)) := fun c hc => by
    rw [hRR]
    exact ((j2_run 1000 _ _ m (zinv (cpy_ag h8 hnt) hI) (j2_cpy h8 hnt hJ) (by omega)).1 c hc).1
  obtain ⟨hAt, eC⟩ := tell_ag hA hI hT nc (Nat.le_refl _)
  have hIt := inv_tell hI (T := RR.1) nc (Nat.le_refl _)
  have hI0t : Inv (tellS S0 (fcS S1 S0 m nc nt).1 nc) 3 nc nt ne m := hAt.inv hIt
  have eO : outI (fcS (fcS S1 S0 m nc nt).1 (tellS S0 (fcS S1 S0 m nc nt).1 nc) m nc nt) = outI RR := by rw [fc_out hAt hIt, an_out (tell_an hn) hI, hRR, an_out hC hI]
  refine ⟨tellS S0 (fcS S1 S0 m nc nt).1 nc, (fcS (fcS S1 S0 m nc nt).1 (tellS S0 (fcS S1 S0 m nc nt).1 nc) m nc nt).1, va_up Sv e (cpS (Sv e) S0 nc nt), min 4 (ks + 1), (e + 1) % 4, tellS R RR.1 nc, nc, nt, ne, m, ⟨hIt, j2_tell hn hJ hT6 nc (Nat.le_refl _), h8, hm, hAt, e4', ks4⟩, ?_⟩
  refine Cz.of RL rfl (by decide) [some (.ref D), some (.ref (D + 141)), some (.ref (D + 141 + 1)), some (.ref (D + 141 + 2)), none, none, none, none] (Nat.le_of_ble_eq_true rfl) rfl (fun hNn Γ h hZ f => ?_)
  have hDn := mk_n hNn
  have hFn := mk_none hDn hNn
  have hlo : ∀ j, j + 0 ≤ nc → j ≤ 8 := fun j h => by omega
  have loop22 : ∀ d j, j + d = nc → V E Γ 5 131 22 [some (.ref D), some (.ref (D + 141)), some (.ref (D + 141 + 1)), some (.ref (D + 141 + 2)), some (.ref n), some (.int (outI RR)), some (.int (tellC R RR.1 j)), some (.int (nI j))] [] (lw E (D + 141) (tellS R RR.1 j) (dl E D S0 S1 Sv (nI ks) (nI e) 0 (fun _ => 0) (n + 5, FA F n (.inl (gI E, 8, .inl (cpA (fun _ => 0) (fun c => RR.1 (13 + 8 * c + 6)) nc)))))) := by
    intro d
    induction d with
    | zero =>
      intro j hj
      obtain rfl : nc = j := by omega
      have hIj := inv_tell hI (T := RR.1) nc (Nat.le_refl _)
      refine v_iload (i := 7) h 22 24 dL_tells_22 rfl ld7 ?_
      refine v_aload_n (i := 1) h 24 25 dL_tells_24 rfl rfl ld1 ?_
      refine v_bipush (v := nI 7) h 25 27 dL_tells_25 rfl (by decide) ?_
      refine v_ldG h 27 28 7 dL_tells_27 rfl (by omega) ?_
      rw [hIj.c7]
      refine v_icmp_ge h 28 31 83 dL_tells_28 rfl (by decide) (fun h28 => ?_) (fun h28 => absurd (nI_le (a := nc) (b := nc) (by omega) (by omega)) h28)
      refine v_aload_n (i := 0) h 83 84 dL_tells_83 rfl rfl ld0 ?_
      refine v_callV1 h 84 87 dL_tells_84 rfl cb_X3_tell cv_X3_tell hD_lw lk_L_108 (rok (by decide) (by decide)) ⟨rfl, rfl⟩ ⟨by decide, by decide⟩ (Cd.lw (fun w => k_tell he hks hI0 (by omega))) rfl rfl (Nat.le_of_ble_eq_true rfl) ?_
      refine v_iload (i := 6) h 87 89 dL_tells_87 rfl ld6 ?_
      refine v_icmp_ne h 89 92 105 dL_tells_89 rfl (by decide) (fun h89 => absurd eC h89) (fun h89 => ?_)
      refine v_aload_n (i := 0) h 92 93 dL_tells_92 rfl rfl ld0 ?_
      refine v_callV1 h 93 96 dL_tells_93 rfl cb_X3_minutesToAll cv_X3_minutesToAll hD_lw lk_L_112 (rok (by decide) (by decide)) ⟨rfl, rfl⟩ ⟨by decide, by decide⟩ (Cd.lw (fun w => k_minutesToAll hI0t (by omega))) rfl rfl (Nat.le_of_ble_eq_true rfl) ?_
      refine v_iload (i := 5) h 96 98 dL_tells_96 rfl ld5 ?_
      refine v_icmp_ne h 98 101 105 dL_tells_98 rfl (by decide) (fun h98 => absurd eO h98) (fun h98 => ?_)
      refine v_iconst (v := 1) h 101 102 dL_tells_101 rfl (by decide) ?_
      refine v_goto h 102 106 dL_tells_102 (by decide) ?_
      refine V.less (w' := lw E (D + 141) (tellS R RR.1 nc) (dl E D (tellS S0 (fcS S1 S0 m nc nt).1 nc) ((fcS (fcS S1 S0 m nc nt).1 (tellS S0 (fcS S1 S0 m nc nt).1 nc) m nc nt).1) (va_up Sv e (cpS (Sv e) S0 nc nt)) (nI (min 4 (ks + 1))) (nI ((e + 1) % 4)) 0 (fun _ => 0) (n + 5, F))) rfl (mk_less hDn hFn) ?_
      exact v_zretz h 106 f dL_tells_106 rfl rfl (by decide) (by decide) rfl (by show n ≤ n + 5; omega) rfl
    | succ d ih =>
      intro j hj
      have hIj := inv_tell hI (T := RR.1) j (by omega)
      refine v_iload (i := 7) h 22 24 dL_tells_22 rfl ld7 ?_
      refine v_aload_n (i := 1) h 24 25 dL_tells_24 rfl rfl ld1 ?_
      refine v_bipush (v := nI 7) h 25 27 dL_tells_25 rfl (by decide) ?_
      refine v_ldG h 27 28 7 dL_tells_27 rfl (by omega) ?_
      rw [hIj.c7]
      refine v_icmp_ge h 28 31 83 dL_tells_28 rfl (by decide) (fun h28 => absurd h28 (nI_ge (a := j) (b := nc) (by omega) (by omega))) (fun h28 => ?_)
      refine v_aload_n (i := 2) h 31 32 dL_tells_31 rfl rfl ld2 ?_
      refine v_bipush (v := nI 8) h 32 34 dL_tells_32 rfl (by decide) ?_
      refine v_iload (i := 7) h 34 36 dL_tells_34 rfl ld7 ?_
      refine v_imulN h 36 37 dL_tells_36 rfl ?_
      refine v_iconst (v := nI 4) h 37 38 dL_tells_37 rfl (by decide) ?_
      refine v_iaddN h 38 39 dL_tells_38 rfl ?_
      refine v_ldE h 39 40 j 4 dL_tells_39 rfl (by omega) (by omega) ?_
      refine v_iconst (v := 2) h 40 41 dL_tells_40 rfl (by decide) ?_
      refine v_icmp_ge h 41 44 77 dL_tells_41 rfl (by decide) (fun h41 => ?_) (fun h41 => ?_)
      · have hs2 : tellS R RR.1 j (13 + 8 * j + 4) = 2 := by
          rcases (hIj.2.2.1 j (by omega)).2.2.2.2 with q | q | q
          · rw [q] at h41; exact absurd h41 (by decide)
          · rw [q] at h41; exact absurd h41 (by decide)
          · exact q
        refine v_iinc (i := 7) h 77 80 dL_tells_77 rfl ld7 (by first | exact iinc1 _ | rfl) (by decide) (so7 rfl) ?_
        refine v_goto h 80 22 dL_tells_80 (by decide) ?_
        have q := ih (j + 1) (by omega)
        rw [tellS_s, tellC_s, if_pos hs2, if_pos hs2] at q
        exact V.weakT q (And.intro rfl (And.intro rfl (And.intro rfl (And.intro rfl (And.intro rfl (And.intro rfl (And.intro rfl (And.intro rfl trivial))))))))
      · have hs2 : ¬ tellS R RR.1 j (13 + 8 * j + 4) = 2 := fun q => h41 (by rw [q]; decide)
        rcases hT6 j (by omega) with e1 | ⟨y, hy, e1⟩
        · refine v_aload_n (i := 2) h 44 45 dL_tells_44 rfl rfl ld2 ?_
          refine v_bipush (v := nI 8) h 45 47 dL_tells_45 rfl (by decide) ?_
          refine v_iload (i := 7) h 47 49 dL_tells_47 rfl ld7 ?_
          refine v_imulN h 49 50 dL_tells_49 rfl ?_
          refine v_bipush (v := nI 7) h 50 52 dL_tells_50 rfl (by decide) ?_
          refine v_iaddN h 52 53 dL_tells_52 rfl ?_
          refine v_aload (i := 4) h 53 55 dL_tells_53 rfl ld4 ?_
          refine v_iload (i := 7) h 55 57 dL_tells_55 rfl ld7 ?_
          refine v_iald h 57 58 dL_tells_57 rfl (mk_at hDn) (vp_in_nI (n := j) (by omega) (by decide)) ?_
          rw [nI_clamp (by omega), cpA_in (by omega)]
          refine v_stE h 58 59 j 7 dL_tells_58 rfl (by omega) (by omega) ?_
          refine v_iload (i := 6) h 59 61 dL_tells_59 rfl ld6 ?_
          refine v_aload (i := 4) h 61 63 dL_tells_61 rfl ld4 ?_
          refine v_iload (i := 7) h 63 65 dL_tells_63 rfl ld7 ?_
          refine v_iald h 65 66 dL_tells_65 rfl (mk_at hDn) (vp_in_nI (n := j) (by omega) (by decide)) ?_
          rw [nI_clamp (by omega), cpA_in (by omega), e1]
          refine v_if_lt h 66 69 73 dL_tells_66 rfl (by decide) (fun h66 => ?_) (fun h66 => absurd (by decide) h66)
          refine v_iconst (v := 0) h 73 74 dL_tells_73 rfl (by decide) ?_
          refine v_iadd h 74 75 dL_tells_74 rfl ?_
          refine v_istore (i := 6) h 75 77 dL_tells_75 rfl (by decide) (so6 rfl) ?_
          refine v_iinc (i := 7) h 77 80 dL_tells_77 rfl ld7 (by first | exact iinc1 _ | rfl) (by decide) (so7 rfl) ?_
          refine v_goto h 80 22 dL_tells_80 (by decide) ?_
          have q := ih (j + 1) (by omega)
          rw [tellS_s, tellC_s, if_neg hs2, if_neg hs2, if_pos e1, e1] at q
          exact V.weakT q (And.intro rfl (And.intro rfl (And.intro rfl (And.intro rfl (And.intro rfl (And.intro rfl (And.intro rfl (And.intro rfl trivial))))))))
        · have e1n : ¬ RR.1 (13 + 8 * j + 6) = -1 := by rw [e1]; exact nI_ne_m1 (by omega)
          refine v_aload_n (i := 2) h 44 45 dL_tells_44 rfl rfl ld2 ?_
          refine v_bipush (v := nI 8) h 45 47 dL_tells_45 rfl (by decide) ?_
          refine v_iload (i := 7) h 47 49 dL_tells_47 rfl ld7 ?_
          refine v_imulN h 49 50 dL_tells_49 rfl ?_
          refine v_bipush (v := nI 7) h 50 52 dL_tells_50 rfl (by decide) ?_
          refine v_iaddN h 52 53 dL_tells_52 rfl ?_
          refine v_aload (i := 4) h 53 55 dL_tells_53 rfl ld4 ?_
          refine v_iload (i := 7) h 55 57 dL_tells_55 rfl ld7 ?_
          refine v_iald h 57 58 dL_tells_57 rfl (mk_at hDn) (vp_in_nI (n := j) (by omega) (by decide)) ?_
          rw [nI_clamp (by omega), cpA_in (by omega)]
          refine v_stE h 58 59 j 7 dL_tells_58 rfl (by omega) (by omega) ?_
          refine v_iload (i := 6) h 59 61 dL_tells_59 rfl ld6 ?_
          refine v_aload (i := 4) h 61 63 dL_tells_61 rfl ld4 ?_
          refine v_iload (i := 7) h 63 65 dL_tells_63 rfl ld7 ?_
          refine v_iald h 65 66 dL_tells_65 rfl (mk_at hDn) (vp_in_nI (n := j) (by omega) (by decide)) ?_
          rw [nI_clamp (by omega), cpA_in (by omega), e1]
          refine v_if_lt h 66 69 73 dL_tells_66 rfl (by decide) (fun h66 => absurd h66 (nI_nlt (a := y) (b := 0) (by omega) (by omega))) (fun h66 => ?_)
          refine v_iconst (v := 1) h 69 70 dL_tells_69 rfl (by decide) ?_
          refine v_goto h 70 74 dL_tells_70 (by decide) ?_
          refine v_iadd h 74 75 dL_tells_74 rfl ?_
          refine v_istore (i := 6) h 75 77 dL_tells_75 rfl (by decide) (so6 rfl) ?_
          refine v_iinc (i := 7) h 77 80 dL_tells_77 rfl ld7 (by first | exact iinc1 _ | rfl) (by decide) (so7 rfl) ?_
          refine v_goto h 80 22 dL_tells_80 (by decide) ?_
          have q := ih (j + 1) (by omega)
          rw [tellS_s, tellC_s, if_neg hs2, if_neg hs2, if_neg e1n, e1] at q
          exact V.weakT q (And.intro rfl (And.intro rfl (And.intro rfl (And.intro rfl (And.intro rfl (And.intro rfl (And.intro rfl (And.intro rfl trivial))))))))
  refine v_bipush (v := nI 8) h 0 2 dL_tells_0 rfl (by decide) ?_
  refine v_newI (N := 8) h 2 4 dL_tells_2 rfl (nI_pos (by omega)) (nI_clamp (by omega)) (by omega) aI ⟨by decide, by decide⟩ ?_
  refine V.nx (k' := 1) (n' := 8) (w' := lw E (D + 141) R (dl E D S0 S1 Sv (nI ks) (nI e) 0 (fun _ => 0) (n + 1, FA F n (.inl (gI E, 8, .inl (fun _ => 0)))))) (by decide) (by decide) (mk_new hDn) ?_
  refine v_astore (i := 4) h 4 6 dL_tells_4 rfl (by decide) (so4 rfl) ?_
  refine v_aload_n (i := 1) h 6 7 dL_tells_6 rfl rfl ld1 ?_
  refine v_aload_n (i := 2) h 7 8 dL_tells_7 rfl rfl ld2 ?_
  refine v_aload_n (i := 3) h 8 9 dL_tells_8 rfl rfl ld3 ?_
  refine v_aload (i := 4) h 9 11 dL_tells_9 rfl ld4 ?_
  refine v_callS1a h 11 14 dL_tells_11 rfl cb_L_foresees cs_L_foresees lk_L_104 (rok (by decide) (by decide)) ⟨by decide, by decide⟩ (k_foresees (T := n) hI hJ h8 (by omega) ((dl_out (by omega)).trans (if_pos rfl)) (by omega)) rfl rfl (Nat.le_of_ble_eq_true rfl) ?_
  rw [← hRR]
  refine V.nx (k' := 5) (n' := 131) (w' := lw E (D + 141) R (dl E D S0 S1 Sv (nI ks) (nI e) 0 (fun _ => 0) (n + 5, FA F n (.inl (gI E, 8, .inl (cpA (fun _ => 0) (fun c => RR.1 (13 + 8 * c + 6)) nc)))))) (by decide) (by decide) ?_ ?_
  · show lw E (D + 141) R (n + 1 + 4, (wup (dl E D S0 S1 Sv (nI ks) (nI e) 0 (fun _ => 0) (n + 1, FA F n (.inl (gI E, 8, .inl (fun _ => 0))))) n (.inl (gI E, 8, .inl (cpA (fun _ => 0) (fun c => RR.1 (13 + 8 * c + 6)) nc)))).2) = _
    rw [mk_dl hDn]
    rfl
  refine v_istore (i := 5) h 14 16 dL_tells_14 rfl (by decide) (so5 rfl) ?_
  refine v_iconst (v := 0) h 16 17 dL_tells_16 rfl (by decide) ?_
  refine v_istore (i := 6) h 17 19 dL_tells_17 rfl (by decide) (so6 rfl) ?_
  refine v_iconst (v := 0) h 19 20 dL_tells_19 rfl (by decide) ?_
  refine v_istore (i := 7) h 20 22 dL_tells_20 rfl (by decide) (so7 rfl) ?_
  exact V.weakT (loop22 nc 0 (by omega)) (And.intro rfl (And.intro rfl (And.intro rfl (And.intro rfl (And.intro rfl (And.intro rfl (And.intro rfl (And.intro rfl trivial))))))))

