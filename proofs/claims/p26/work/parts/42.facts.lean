/-! FACTS FOR THE LAW: what agrees but in the journal; what the minute's number doesn't touch; what more always holds -/
theorem cnt_nI {c : Nat} (h : c < 2 ^ 31) : cnt (nI c) = c := nI_clamp h
theorem Ag.zfin {a b : St} {nc nt ne : Nat} (h : Ag nc nt 0 a b) {t c : Nat} (ht : t < nt) (hc : c < nc) (hne : ne < 14) (e12 : b 12 = nI ne) : Ag nc nt 0 (finS a t c) (finS b t c) := by
  unfold finS
  have h1 : Ag nc nt 0 (fn1 (fin0 a c) c (a 9 + 1)) (fn1 (fin0 b c) c (b 9 + 1)) := ((h.gfin0 hc).up rfl).up (by rw [h.lo (by omega)])
  have e12b : fn1 (fin0 b c) c (b 9 + 1) 12 = nI ne := by
    unfold fn1
    rw [upd_ne _ _ (by omega), upd_ne _ _ (by omega), fin0_ne (by omega) (by omega)]
    exact e12
  generalize fn1 (fin0 a c) c (a 9 + 1) = a1 at h1 ⊢
  generalize fn1 (fin0 b c) c (b 9 + 1) = b1 at h1 e12b ⊢
  have h2 : Ag nc nt 0 (fn2 a1 t) (fn2 b1 t) := by
    unfold fn2
    rw [h1.lo (i := 12) (by omega), e12b, nI_clamp (by omega)]
    exact h1.up (h1.tm ht (by omega))
  generalize fn2 a1 t = a2 at h2 ⊢
  generalize fn2 b1 t = b2 at h2 ⊢
  have h3 : Ag nc nt 0 (fn3 a2) (fn3 b2) := h2.up (by rw [h2.lo (by omega)])
  generalize fn3 a2 = a3 at h3 ⊢
  generalize fn3 b2 = b3 at h3 ⊢
  have h4 : Ag nc nt 0 (fn4 a3 t) (fn4 b3 t) := h3.up (by rw [h3.tm ht (by omega)])
  generalize fn4 a3 t = a4 at h4 ⊢
  generalize fn4 b3 t = b4 at h4 ⊢
  have h5 : Ag nc nt 0 (fn5 a4 t c) (fn5 b4 t c) := h4.up (by rw [h4.tm ht (by omega), h4.ch hc (by omega)])
  generalize fn5 a4 t c = a5 at h5 ⊢
  generalize fn5 b4 t c = b5 at h5 ⊢
  have h6 : Ag nc nt 0 (fn6 a5 t c) (fn6 b5 t c) := h5.up (by rw [h5.tm ht (by omega), h5.ch hc (by omega)])
  have h7 := h6.idle t
  generalize idleS (fn6 a5 t c) t = a7 at h7 ⊢
  generalize idleS (fn6 b5 t c) t = b7 at h7 ⊢
  unfold fn8
  rw [h7.tm ht (by omega)]
  split
  · exact h7
  · exact (h7.up rfl).up rfl
theorem Ag.zgo {a b : St} {nc nt ne : Nat} {sp m t : Nat} (h : Ag nc nt 0 a b) (hI : Inv b sp nc nt ne m) (ht : t < nt) : ∃ ne', Ag nc nt 0 (goS a nt t) (goS b nt t) ∧ Inv (goS b nt t) sp nc nt ne' m := by
  have hnt := hI.n4
  have hnc := hI.n14
  unfold goS
  rw [h.tm ht (k := 2) (by omega)]
  by_cases hz : b (125 + 8 * t + 2) = 0
  · rw [if_pos hz, if_pos hz]
    exact ⟨ne, h, hI⟩
  · rw [if_neg hz, if_neg hz]
    have hA : Ag nc nt 0 (go2 (go1 a t) t) (go2 (go1 b t) t) := by
      have h1 : Ag nc nt 0 (go1 a t) (go1 b t) := by
        unfold go1
        rw [h.tm ht (k := 2) (by omega)]
        split
        · exact h.up (by rw [h.tm ht (by omega)])
        · exact h
      exact h1.up (by rw [h1.tm ht (by omega)])
    have IA := inv_go2 hI (t := t) (by omega)
    rw [← go12_ne (S := b) (t := t) (i := 125 + 8 * t + 2) (by omega) (by omega)] at hz
    generalize go2 (go1 a t) t = A at hA ⊢
    generalize go2 (go1 b t) t = B at hA IA hz ⊢
    unfold go3
    rw [hA.tm ht (k := 3) (by omega), hA.tm ht (k := 2) (by omega), hA.tm ht (k := 4) (by omega)]
    by_cases h3 : B (125 + 8 * t + 3) ≤ 0
    · rw [if_pos h3, if_pos h3]
      by_cases r : B (125 + 8 * t + 2) = 3
      · rw [if_pos r, if_pos r]
        exact ⟨ne, hA.rest ht, inv_rest IA ht⟩
      · rw [if_neg r, if_neg r]
        obtain ⟨-, c, hc, e4, e5, e6⟩ := (IA.2.2.2 t ht).busy hz r
        rw [e4, cnt_nI (by omega)]
        by_cases r1 : B (125 + 8 * t + 2) = 1
        · rw [if_pos r1, if_pos r1]
          exact ⟨ne, hA.bring ht hc _, inv_bring IA ht hc e4 e5 e6⟩
        · rw [if_neg r1, if_neg r1]
          obtain ⟨i1, i2⟩ := inv_fin IA ht hc e5 e6
          exact ⟨ne + 1, hA.zfin ht hc (by omega) IA.c12, i1⟩
    · rw [if_neg h3, if_neg h3]
      exact ⟨ne, hA, IA⟩
theorem Ag.ztake {a b : St} {nc nt ne : Nat} {sp m t : Nat} (h : Ag nc nt 0 a b) (hI : Inv b sp nc nt ne m) (ht : t < nt) : Ag nc nt 0 (takeS a nc nt t) (takeS b nc nt t) := by
  have hnc := hI.n14
  unfold takeS
  rw [h.tm ht (k := 2) (by omega), h.tm ht (k := 0) (by omega), h.gchs (hI.InT t ht) hI.InC nc (Nat.le_refl _)]
  split
  · rcases chs_in b (b (125 + 8 * t + 0)) nc (by omega) with hp | ⟨c, hc, hp, h0⟩
    · rw [if_pos hp, if_pos hp]; exact h
    · rw [if_neg (by rw [hp]; exact nI_ne_m1 (by omega)), if_neg (by rw [hp]; exact nI_ne_m1 (by omega)), hp, cnt_nI (by omega)]
      have hT : Ag nc nt 0 (takS a t c) (takS b t c) := ((h.up rfl).up rfl).up rfl
      have q0 : takS b t c (125 + 8 * t + 0) = b (125 + 8 * t + 0) := tak_ne (by omega) (by omega) (by omega)
      have qc : takS b t c (13 + 8 * c + 0) = b (13 + 8 * c + 0) := tak_ne (by omega) (by omega) (by omega)
      unfold tak2
      rw [hT.tm ht (k := 0) (by omega), hT.ch hc (k := 0) (by omega), hT.way (by rw [q0]; exact hI.InT t ht) (by rw [qc]; exact hI.InC c hc)]
      split
      · exact hT.bring ht hc _
      · exact (hT.up rfl).up rfl
  · exact h
theorem Ag.zggoN {a b : St} {nc nt ne : Nat} {sp m : Nat} (h : Ag nc nt 0 a b) (hI : Inv b sp nc nt ne m) : ∀ t, t ≤ nt → ∃ ne', Ag nc nt 0 (goN a nt t) (goN b nt t) ∧ Inv (goN b nt t) sp nc nt ne' m := by
  intro t
  induction t with
  | zero => intro _; exact ⟨ne, h, hI⟩
  | succ t ih =>
    intro ht
    obtain ⟨ne', a1, a2⟩ := ih (by omega)
    exact a1.zgo a2 (by omega)
theorem Ag.zgtakN {a b : St} {nc nt ne : Nat} {sp m : Nat} (h : Ag nc nt 0 a b) (hI : Inv b sp nc nt ne m) : ∀ t, t ≤ nt → Ag nc nt 0 (takN a nc nt t) (takN b nc nt t) := by
  intro t
  induction t with
  | zero => intro _; exact h
  | succ t ih =>
    intro ht
    exact (ih (by omega)).ztake (inv_takN hI t (by omega)) (by omega)
theorem Ag.zmin {a b : St} {nc nt ne : Nat} {sp m : Nat} (h : Ag nc nt 0 a b) (hI : Inv b sp nc nt ne m) : ∃ ne', Ag nc nt 0 (minS a m nc nt) (minS b m nc nt) ∧ Inv (minS b m nc nt) sp nc nt ne' (m + 1) := by
  obtain ⟨ne', a1, a2⟩ := (h.gminA m).zggoN (inv_minA hI) nt (Nat.le_refl _)
  exact ⟨ne', (a1.zgtakN a2 nt (Nat.le_refl _)).up rfl, inv_9 (inv_takN a2 nt (Nat.le_refl _))⟩
theorem Ag.zrun {sp : Nat} : ∀ (f : Nat) {a b : St} {nc nt ne m : Nat}, Ag nc nt 0 a b → Inv b sp nc nt ne m → ∃ ne', Ag nc nt 0 (runS nc nt f a m).1 (runS nc nt f b m).1 ∧ (runS nc nt f a m).2 = (runS nc nt f b m).2 ∧ Inv (runS nc nt f b m).1 sp nc nt ne' (m + (runS nc nt f b m).2) := by
  intro f
  induction f with
  | zero => intro a b nc nt ne m h hI; exact ⟨ne, h, rfl, hI⟩
  | succ f ih =>
    intro a b nc nt ne m h hI
    unfold runS
    rw [h.lo (i := 7) (by omega), h.lo (i := 12) (by omega)]
    by_cases q : b 7 ≤ b 12
    · rw [if_pos q, if_pos q]; exact ⟨ne, h, rfl, hI⟩
    · rw [if_neg q, if_neg q]
      obtain ⟨ne1, a1, a2⟩ := h.zmin hI
      obtain ⟨ne2, b1, b2, b3⟩ := ih a1 a2
      exact ⟨ne2, b1, by rw [b2], by rw [show m + ((runS nc nt f (minS b m nc nt) (m + 1)).2 + 1) = m + 1 + (runS nc nt f (minS b m nc nt) (m + 1)).2 by omega]; exact b3⟩
theorem u9_way {S : St} {v x y : Int32} (hx : InS x) (hy : InS y) : wayV (upd S 9 v) x y = wayV S x y := wayV_eq (fun k hk => upd_ne _ _ (by omega)) hx hy
theorem u9_rk {S : St} {v : Int32} {c : Nat} : rkS (upd S 9 v) c = rkS S c := by
  unfold rkS
  rw [upd_ne _ _ (by omega), upd_ne _ _ (by omega)]
theorem u9_chs {S : St} {v x : Int32} {nc : Nat} (hx : InS x) (hC : ∀ c, c < nc → InS (S (13 + 8 * c + 0))) : ∀ n, n ≤ nc → chs (upd S 9 v) x n = chs S x n := by
  intro n
  induction n with
  | zero => intro _; rfl
  | succ n ih =>
    intro hn
    rw [chs_succ, chs_succ, ih (by omega), upd_ne _ _ (show 13 + 8 * n + 4 ≠ 9 by omega), u9_rk, upd_ne _ _ (show 13 + 8 * n + 0 ≠ 9 by omega), u9_way hx (hC n (by omega))]
theorem hlp_eq {A B : St} {c nt : Nat} {tn : Int32} (h0 : A (13 + 8 * c + 0) = B (13 + 8 * c + 0)) (hk : ∀ i, i < nt → ¬ nI i = tn → A (125 + 8 * i + 2) = B (125 + 8 * i + 2) ∧ A (125 + 8 * i + 0) = B (125 + 8 * i + 0)) : ∀ n, n ≤ nt → hlpN A c tn n = hlpN B c tn n := by
  intro n
  induction n with
  | zero => intro _; rfl
  | succ n ih =>
    intro hn
    rw [hlpN, hlpN, ih (by omega)]
    by_cases e : nI n = tn
    · have z : ∀ S : St, hlpB S c tn n = false := fun S => by
        unfold hlpB
        exact decide_eq_false (fun q => q.1 e)
      rw [z, z]
    · unfold hlpB
      rw [(hk n (by omega) e).1, (hk n (by omega) e).2, h0]
theorem wk_eq {A B : St} {c nt : Nat} {tn x : Int32} (h1 : A (13 + 8 * c + 1) = B (13 + 8 * c + 1)) (h0 : A (13 + 8 * c + 0) = B (13 + 8 * c + 0)) (hk : ∀ i, i < nt → ¬ nI i = tn → A (125 + 8 * i + 2) = B (125 + 8 * i + 2) ∧ A (125 + 8 * i + 0) = B (125 + 8 * i + 0)) : wkS A nt c tn x = wkS B nt c tn x := by
  unfold wkS wkM
  rw [hlp_eq h0 hk nt (Nat.le_refl _), h1]
theorem wk_all : ∀ r, r < 5 → 1 ≤ r → ∀ k, k < 31 → (2 + nI r * (1 + nI k / 5) = nI (2 + r * (1 + k / 5)) ∧ (if 1 < 2 + nI r * (1 + nI k / 5) - 1 then 2 + nI r * (1 + nI k / 5) - 1 else 1) = nI (1 + r * (1 + k / 5))) ∧ 1 ≤ r * (1 + k / 5) ∧ r * (1 + k / 5) ≤ 100 := by decide +kernel
theorem wk_rng {S : St} {nt c r k : Nat} {tn x : Int32} (hr1 : 1 ≤ r) (hr2 : r ≤ 4) (er : S (13 + 8 * c + 1) = nI r) (hk : k ≤ 30) (ek : x = nI k) : ∃ y, 1 ≤ y ∧ y ≤ 200 ∧ wkS S nt c tn x = nI y := by
  obtain ⟨⟨a1, a2⟩, a3, a4⟩ := wk_all r (by omega) hr1 k (by omega)
  unfold wkS wkM
  rw [er, ek]
  split
  · exact ⟨_, by omega, by omega, a2⟩
  · exact ⟨_, by omega, by omega, a1⟩
/-- what more always holds: minutes are -1 or a number, a busy team has minutes left -/
def mn1 (x : Int32) : Prop := x = -1 ∨ ∃ y, y < 2 ^ 30 ∧ x = nI y
def bz1 (a b : Int32) : Prop := a = 0 ∨ ∃ y, 1 ≤ y ∧ y ≤ 200 ∧ b = nI y
def J2 (S : St) (nc nt : Nat) : Prop := (∀ c, c < nc → mn1 (S (13 + 8 * c + 6)) ∧ mn1 (S (13 + 8 * c + 7))) ∧ ∀ t, t < nt → bz1 (S (125 + 8 * t + 2)) (S (125 + 8 * t + 3))
theorem J2.eq {S S' : St} {nc nt : Nat} (h : J2 S nc nt) (hc : ∀ c, c < nc → (S' (13 + 8 * c + 6) = S (13 + 8 * c + 6) ∨ mn1 (S' (13 + 8 * c + 6))) ∧ (S' (13 + 8 * c + 7) = S (13 + 8 * c + 7) ∨ mn1 (S' (13 + 8 * c + 7)))) (ht : ∀ t, t < nt → (S' (125 + 8 * t + 2) = S (125 + 8 * t + 2) ∧ S' (125 + 8 * t + 3) = S (125 + 8 * t + 3)) ∨ bz1 (S' (125 + 8 * t + 2)) (S' (125 + 8 * t + 3))) : J2 S' nc nt := by
  refine ⟨fun c hc' => ⟨?_, ?_⟩, fun t ht' => ?_⟩
  · rcases (hc c hc').1 with e | e
    · rw [e]; exact (h.1 c hc').1
    · exact e
  · rcases (hc c hc').2 with e | e
    · rw [e]; exact (h.1 c hc').2
    · exact e
  · rcases ht t ht' with ⟨e1, e2⟩ | e
    · rw [e1, e2]; exact h.2 t ht'
    · exact e
theorem cold_ne {S : St} {i N : Nat} (h : ∀ c, c < N → i ≠ 13 + 8 * c + 2) : ∀ n, n ≤ N → coldS S n i = S i := by
  intro n
  induction n with
  | zero => intro _; rfl
  | succ n ih =>
    intro hn
    rw [coldS_s]
    unfold cold1
    split
    · exact ih (by omega)
    · rw [upd_ne _ _ (h n (by omega))]; exact ih (by omega)
theorem J2.cold {S : St} {nc nt n : Nat} (h : J2 S nc nt) (hn : n ≤ 14) : J2 (coldS S n) nc nt := h.eq (fun c _ => ⟨Or.inl (cold_ne (fun d _ => by omega) n hn), Or.inl (cold_ne (fun d _ => by omega) n hn)⟩) (fun t _ => Or.inl ⟨cold_ne (fun d _ => by omega) n hn, cold_ne (fun d _ => by omega) n hn⟩)
theorem J2.u9 {S : St} {v : Int32} {nc nt : Nat} (h : J2 S nc nt) : J2 (upd S 9 v) nc nt := h.eq (fun c _ => ⟨Or.inl (upd_ne _ _ (by omega)), Or.inl (upd_ne _ _ (by omega))⟩) (fun t _ => Or.inl ⟨upd_ne _ _ (by omega), upd_ne _ _ (by omega)⟩)
theorem J2.rest {S : St} {nc nt t : Nat} (h : J2 S nc nt) (hn : nc ≤ 14) : J2 (restS S t) nc nt := by
  have e : ∀ i, (i < 125 + 8 * t + 1 ∨ 125 + 8 * t + 4 < i) → restS S t i = S i := fun i hi => by
    unfold restS
    rw [upd_ne _ _ (by omega), idleS_ne (by omega)]
  refine h.eq (fun c hc => ⟨Or.inl (e _ (by omega)), Or.inl (e _ (by omega))⟩) (fun u hu => ?_)
  by_cases q : u = t
  · subst q
    refine Or.inr (Or.inl ?_)
    unfold restS idleS
    simp (disch := omega) only [upd_ne, upd_self]
  · exact Or.inl ⟨e _ (by omega), e _ (by omega)⟩
theorem J2.bring {S : St} {sp nc nt ne m t c : Nat} {tn : Int32} (h : J2 S nc nt) (hI : Inv S sp nc nt ne m) (ht : t < nt) (hc : c < nc) : J2 (bringS S nt t c tn) nc nt := by
  have hn := hI.n14
  have e : ∀ i, (i < 125 + 8 * t ∨ 125 + 8 * t + 3 < i) → bringS S nt t c tn i = S i := fun i hi => by
    unfold bringS
    rw [upd_ne _ _ (by omega), upd_ne _ _ (by omega), upd_ne _ _ (by omega)]
  refine h.eq (fun d hd => ⟨Or.inl (e _ (by omega)), Or.inl (e _ (by omega))⟩) (fun u hu => ?_)
  by_cases q : u = t
  · subst q
    refine Or.inr (Or.inr ?_)
    obtain ⟨r, hr1, hr2, er⟩ := (hI.2.2.1 c hc).2.1
    obtain ⟨k, hk, ek⟩ := (hI.2.2.2 u ht).2.1
    obtain ⟨y, h1, h2, h3⟩ := wk_rng (S := upd S (125 + 8 * u + 0) (S (13 + 8 * c + 0))) (nt := nt) (c := c) (tn := tn) (x := S (125 + 8 * u + 1)) hr1 hr2 (by rw [upd_ne _ _ (by omega)]; exact er) hk ek
    refine ⟨y, h1, h2, ?_⟩
    unfold bringS
    rw [upd_ne _ _ (show 125 + 8 * u + 3 ≠ 125 + 8 * u + 2 by omega), upd_self, upd_ne _ _ (show 125 + 8 * u + 1 ≠ 125 + 8 * u + 0 by omega)]
    exact h3
  · exact Or.inl ⟨e _ (by omega), e _ (by omega)⟩
theorem J2.fin {S : St} {sp nc nt ne m t c : Nat} (h : J2 S nc nt) (hI : Inv S sp nc nt ne m) (hm : m + 1 < 2 ^ 30) (ht : t < nt) (hc : c < nc) (hne : ne < 14) (e4 : S (125 + 8 * t + 4) = nI c) : J2 (finS S t c) nc nt := by
  have hn := hI.n14
  have hnt := hI.n4
  have e : ∀ i, i ≠ 10 → i ≠ 11 → i ≠ 12 → i ≠ 157 + ne → i ≠ 13 + 8 * c + 4 → i ≠ 13 + 8 * c + 6 → (i < 125 + 8 * t + 1 ∨ 125 + 8 * t + 6 < i) → finS S t c i = S i := fun i q1 q2 q3 q4 q5 q6 q7 => finS_out hI.c12 hne q1 q2 q3 q4 q5 q6 q7
  have hf := fin_fK (by omega) (by omega) hne hI.c12 e4
  refine h.eq (fun d hd => ⟨?_, Or.inl (e _ (by omega) (by omega) (by omega) (by omega) (by omega) (by omega) (by omega))⟩) (fun u hu => ?_)
  · by_cases q : d = c
    · subst q
      refine Or.inr (Or.inr ⟨m + 1, by omega, ?_⟩)
      rw [hf]
      unfold fK
      rw [if_neg (by omega), if_neg (by omega), if_neg (by omega), if_pos rfl, hI.c9, nI_1]
    · exact Or.inl (e _ (by omega) (by omega) (by omega) (by omega) (by omega) (by omega) (by omega))
  · by_cases q : u = t
    · subst q
      refine Or.inr ?_
      rw [hf]
      unfold fK bz1
      rw [if_neg (show ¬ 125 + 8 * u + 2 = 12 by omega), if_neg (show ¬ 125 + 8 * u + 2 = 157 + ne by omega), if_neg (show ¬ 125 + 8 * u + 2 = 13 + 8 * c + 4 by omega), if_neg (show ¬ 125 + 8 * u + 2 = 13 + 8 * c + 6 by omega), if_neg (show ¬ 125 + 8 * u + 2 = 125 + 8 * u + 5 by omega), if_neg (show ¬ 125 + 8 * u + 2 = 125 + 8 * u + 6 by omega), if_neg (show ¬ 125 + 8 * u + 2 = 125 + 8 * u + 1 by omega), if_pos rfl,
        if_neg (show ¬ 125 + 8 * u + 3 = 12 by omega), if_neg (show ¬ 125 + 8 * u + 3 = 157 + ne by omega), if_neg (show ¬ 125 + 8 * u + 3 = 13 + 8 * c + 4 by omega), if_neg (show ¬ 125 + 8 * u + 3 = 13 + 8 * c + 6 by omega), if_neg (show ¬ 125 + 8 * u + 3 = 125 + 8 * u + 5 by omega), if_neg (show ¬ 125 + 8 * u + 3 = 125 + 8 * u + 6 by omega), if_neg (show ¬ 125 + 8 * u + 3 = 125 + 8 * u + 1 by omega), if_neg (show ¬ 125 + 8 * u + 3 = 125 + 8 * u + 2 by omega), if_pos rfl]
      split
      · exact Or.inl rfl
      · exact Or.inr ⟨5, by omega, by omega, rfl⟩
    · exact Or.inl ⟨e _ (by omega) (by omega) (by omega) (by omega) (by omega) (by omega) (by omega), e _ (by omega) (by omega) (by omega) (by omega) (by omega) (by omega) (by omega)⟩
theorem fK_3 {S : St} {t c ne : Nat} (hc : c < 14) (ht : t < 4) (hne : ne < 14) : fK S t c ne (125 + 8 * t + 3) = if S (125 + 8 * t + 1) + S (13 + 8 * c + 1) < 10 then 0 else 5 := by
  unfold fK
  rw [if_neg (show ¬ 125 + 8 * t + 3 = 12 by omega), if_neg (show ¬ 125 + 8 * t + 3 = 157 + ne by omega), if_neg (show ¬ 125 + 8 * t + 3 = 13 + 8 * c + 4 by omega), if_neg (show ¬ 125 + 8 * t + 3 = 13 + 8 * c + 6 by omega), if_neg (show ¬ 125 + 8 * t + 3 = 125 + 8 * t + 5 by omega), if_neg (show ¬ 125 + 8 * t + 3 = 125 + 8 * t + 6 by omega), if_neg (show ¬ 125 + 8 * t + 3 = 125 + 8 * t + 1 by omega), if_neg (show ¬ 125 + 8 * t + 3 = 125 + 8 * t + 2 by omega), if_pos rfl]
/-- before a busy team's minute is looked at -/
theorem J2.go12 {S : St} {nc nt t : Nat} (h : J2 S nc nt) (ht : t < nt) (hz : ¬ S (125 + 8 * t + 2) = 0) (hn : nc ≤ 14) : (∃ y, y < 200 ∧ go2 (go1 S t) t (125 + 8 * t + 3) = nI y) ∧ (∀ i, i ≠ 125 + 8 * t + 7 → i ≠ 125 + 8 * t + 3 → go2 (go1 S t) t i = S i) := by
  refine ⟨?_, fun i h1 h2 => go12_ne h1 h2⟩
  rcases h.2 t ht with e | ⟨y, h1, h2, e⟩
  · exact absurd e hz
  · refine ⟨y - 1, by omega, ?_⟩
    unfold go2
    rw [upd_self, go1_ne (by omega), e, show (1 : Int32) = nI 1 from rfl, pk_sub h1]
set_option maxHeartbeats 4000000 in
theorem J2.go {S : St} {sp nc nt ne m t : Nat} (h : J2 S nc nt) (hI : Inv S sp nc nt ne m) (hm : m + 1 < 2 ^ 30) (ht : t < nt) : J2 (goS S nt t) nc nt := by
  have hn := hI.n14
  have hnt := hI.n4
  unfold goS
  by_cases hz : S (125 + 8 * t + 2) = 0
  · rw [if_pos hz]; exact h
  · rw [if_neg hz]
    obtain ⟨⟨y, hy, ey⟩, ho⟩ := h.go12 ht hz hn
    have IA := inv_go2 hI (t := t) (by omega)
    rw [← ho (125 + 8 * t + 2) (by omega) (by omega)] at hz
    have hO : ∀ (x : Int32), J2 (upd (go2 (go1 S t) t) (125 + 8 * t + 2) 0) nc nt := fun _ => h.eq (fun c hc => ⟨Or.inl (by rw [upd_ne _ _ (by omega)]; exact ho _ (by omega) (by omega)), Or.inl (by rw [upd_ne _ _ (by omega)]; exact ho _ (by omega) (by omega))⟩) (fun u hu => by
      by_cases q : u = t
      · subst q; exact Or.inr (Or.inl (upd_self _ _ _))
      · exact Or.inl ⟨by rw [upd_ne _ _ (by omega)]; exact ho _ (by omega) (by omega), by rw [upd_ne _ _ (by omega)]; exact ho _ (by omega) (by omega)⟩)
    have hJ : ∀ Z : St, (∀ i, i ≠ 125 + 8 * t + 7 → i ≠ 125 + 8 * t + 3 → Z i = S i) → bz1 (Z (125 + 8 * t + 2)) (Z (125 + 8 * t + 3)) → J2 Z nc nt := fun Z hZ hb => h.eq (fun c hc => ⟨Or.inl (hZ _ (by omega) (by omega)), Or.inl (hZ _ (by omega) (by omega))⟩) (fun u hu => by
      by_cases q : u = t
      · subst q; exact Or.inr hb
      · exact Or.inl ⟨hZ _ (by omega) (by omega), hZ _ (by omega) (by omega)⟩)
    have hT := IA.2.2.2 t ht
    have h0 := h
    generalize go2 (go1 S t) t = Z at hz ey ho IA hT ⊢
    -- with one minute more than are left the team is as J2 wants it
    have hJ1 : J2 (upd Z (125 + 8 * t + 3) 1) nc nt := hJ _ (fun i h1 h2 => by rw [upd_ne _ _ h2]; exact ho i h1 h2) (Or.inr ⟨1, by omega, by omega, by rw [upd_self]; rfl⟩)
    unfold go3
    rw [ey]
    by_cases y0 : y = 0
    · subst y0
      rw [if_pos (show nI 0 ≤ 0 by decide)]
      have keep : ∀ F : St, (∀ i, i ≠ 125 + 8 * t + 3 → F i = upd Z (125 + 8 * t + 3) 1 i ∨ True) → True := fun _ _ => trivial
      by_cases r : Z (125 + 8 * t + 2) = 3
      · rw [if_pos r]
        have := J2.rest (t := t) hJ1 hn
        refine this.eq (fun c hc => ?_) (fun u hu => ?_)
        · unfold restS idleS
          simp (disch := omega) only [upd_ne, true_or, and_self]
        · unfold restS idleS
          by_cases q : u = t
          · subst q
            simp (disch := omega) only [upd_ne, upd_self, true_or, and_self]
          · simp (disch := omega) only [upd_ne, true_or, and_self]
      · rw [if_neg r]
        obtain ⟨-, c, hc, e4, e5, e6⟩ := hT.busy hz r
        rw [e4, cnt, nI_clamp (by omega)]
        have I1 : Inv (upd Z (125 + 8 * t + 3) 1) sp nc nt ne m := inv_tm IA (by omega) (by omega)
        by_cases r1 : Z (125 + 8 * t + 2) = 1
        · rw [if_pos r1]
          have := J2.bring (c := c) (tn := nI t) hJ1 I1 ht hc
          refine this.eq (fun d hd => ?_) (fun u hu => ?_)
          · unfold bringS
            simp (disch := omega) only [upd_ne, true_or, and_self]
          · by_cases q : u = t
            · subst q
              refine Or.inr (Or.inr ?_)
              obtain ⟨r9, hr1, hr2, er⟩ := (IA.2.2.1 c hc).2.1
              obtain ⟨k, hk, ek⟩ := (IA.2.2.2 u ht).2.1
              obtain ⟨y, h1, h2, h3⟩ := wk_rng (S := upd Z (125 + 8 * u + 0) (Z (13 + 8 * c + 0))) (nt := nt) (c := c) (tn := nI u) (x := Z (125 + 8 * u + 1)) hr1 hr2 (by rw [upd_ne _ _ (by omega)]; exact er) hk ek
              refine ⟨y, h1, h2, ?_⟩
              unfold bringS
              rw [upd_ne _ _ (show 125 + 8 * u + 3 ≠ 125 + 8 * u + 2 by omega), upd_self, upd_ne _ _ (show 125 + 8 * u + 1 ≠ 125 + 8 * u + 0 by omega)]
              exact h3
            · unfold bringS
              simp (disch := omega) only [upd_ne, true_or, and_self]
        · rw [if_neg r1]
          have hne := (inv_fin IA ht hc e5 e6).2
          have hJn := J2.fin hJ1 I1 hm ht hc (by omega) (by rw [upd_ne _ _ (by omega)]; exact e4)
          rw [fin_fK (by omega) (by omega) (by omega) I1.c12 (by rw [upd_ne _ _ (by omega)]; exact e4)] at hJn
          rw [fin_fK (by omega) (by omega) (by omega) IA.c12 e4]
          have f0 : ∀ i, i ≠ 125 + 8 * t + 3 → fin0 (upd Z (125 + 8 * t + 3) 1) c i = fin0 Z c i := fun i hi => by
            unfold fin0
            rw [upd_ne _ _ (show 13 + 8 * c + 7 ≠ 125 + 8 * t + 3 by omega), upd_ne _ _ (show 9 ≠ 125 + 8 * t + 3 by omega), upd_ne _ _ (show 10 ≠ 125 + 8 * t + 3 by omega), upd_ne _ _ (show 11 ≠ 125 + 8 * t + 3 by omega)]
            split
            · exact upd_ne _ _ hi
            · split
              · unfold upd; simp only [if_neg hi]
              · unfold upd; simp only [if_neg hi]
          have eK : fK (upd Z (125 + 8 * t + 3) 1) t c ne = fK Z t c ne := by
            funext i
            by_cases hi : i = 125 + 8 * t + 3
            · subst hi
              rw [fK_3 (by omega) (by omega) (by omega), fK_3 (by omega) (by omega) (by omega), upd_ne _ _ (show 125 + 8 * t + 1 ≠ 125 + 8 * t + 3 by omega), upd_ne _ _ (show 13 + 8 * c + 1 ≠ 125 + 8 * t + 3 by omega)]
            · unfold fK
              rw [upd_ne _ _ (show 12 ≠ 125 + 8 * t + 3 by omega), upd_ne _ _ (show 9 ≠ 125 + 8 * t + 3 by omega), upd_ne _ _ (show 125 + 8 * t + 5 ≠ 125 + 8 * t + 3 by omega), upd_ne _ _ (show 125 + 8 * t + 6 ≠ 125 + 8 * t + 3 by omega), upd_ne _ _ (show 125 + 8 * t + 1 ≠ 125 + 8 * t + 3 by omega), upd_ne _ _ (show 13 + 8 * c + 1 ≠ 125 + 8 * t + 3 by omega), f0 i hi]
          rw [eK] at hJn
          exact hJn
    · rw [if_neg (by exact nI_nle (by omega) (by omega))]
      exact hJ _ ho (Or.inr ⟨y, by omega, by omega, ey⟩)
theorem J2.take {S : St} {sp nc nt ne m t : Nat} (h : J2 S nc nt) (hI : Inv S sp nc nt ne m) (ht : t < nt) : J2 (takeS S nc nt t) nc nt := by
  have hn := hI.n14
  have hnt := hI.n4
  unfold takeS
  by_cases hz : S (125 + 8 * t + 2) = 0
  · rw [if_pos hz]
    rcases chs_in S (S (125 + 8 * t + 0)) nc (by omega) with hp | ⟨c, hc, hp, h0⟩
    · rw [if_pos hp]; exact h
    · rw [if_neg (by rw [hp]; exact nI_ne_m1 (by omega)), hp, cnt, nI_clamp (by omega)]
      have hT : J2 (takS S t c) nc nt := h.eq (fun d hd => ⟨Or.inl (tak_ne (by omega) (by omega) (by omega)), Or.inl (tak_ne (by omega) (by omega) (by omega))⟩) (fun u hu => Or.inl ⟨tak_ne (by omega) (by omega) (by omega), tak_ne (by omega) (by omega) (by omega)⟩)
      have q0 : takS S t c (125 + 8 * t + 0) = S (125 + 8 * t + 0) := tak_ne (by omega) (by omega) (by omega)
      have qc : takS S t c (13 + 8 * c + 0) = S (13 + 8 * c + 0) := tak_ne (by omega) (by omega) (by omega)
      have qw : wayV (takS S t c) (takS S t c (125 + 8 * t + 0)) (takS S t c (13 + 8 * c + 0)) = wayV S (S (125 + 8 * t + 0)) (S (13 + 8 * c + 0)) := by
        rw [q0, qc]
        exact wayV_eq (fun k hk => tak_ne (by omega) (by omega) (by omega)) (hI.InT t ht) (hI.InC c hc)
      unfold tak2
      rw [qw]
      obtain ⟨a, ha, ea⟩ := way_is hI (hI.InT t ht) (hI.InC c hc)
      split
      · refine hT.eq (fun d hd => ?_) (fun u hu => ?_)
        · unfold bringS
          simp (disch := omega) only [upd_ne, true_or, and_self]
        · by_cases q : u = t
          · subst q
            refine Or.inr (Or.inr ?_)
            obtain ⟨r9, hr1, hr2, er⟩ := (hI.2.2.1 c hc).2.1
            obtain ⟨k, hk, ek⟩ := (hI.2.2.2 u ht).2.1
            obtain ⟨y, h1, h2, h3⟩ := wk_rng (S := upd (takS S u c) (125 + 8 * u + 0) (takS S u c (13 + 8 * c + 0))) (nt := nt) (c := c) (tn := nI u) (x := takS S u c (125 + 8 * u + 1)) hr1 hr2 (by rw [upd_ne _ _ (by omega), tak_ne (by omega) (by omega) (by omega)]; exact er) hk (by rw [tak_ne (by omega) (by omega) (by omega)]; exact ek)
            refine ⟨y, h1, h2, ?_⟩
            unfold bringS
            rw [upd_ne _ _ (show 125 + 8 * u + 3 ≠ 125 + 8 * u + 2 by omega), upd_self, upd_ne _ _ (show 125 + 8 * u + 1 ≠ 125 + 8 * u + 0 by omega)]
            exact h3
          · unfold bringS
            simp (disch := omega) only [upd_ne, true_or, and_self]
      · refine hT.eq (fun d hd => ?_) (fun u hu => ?_)
        · simp (disch := omega) only [upd_ne, true_or, and_self]
        · by_cases q : u = t
          · subst q
            refine Or.inr (Or.inr ⟨a, ?_, by omega, ?_⟩)
            · rename_i hw
              rw [ea] at hw
              exact Nat.pos_of_ne_zero (fun q => hw (by rw [q]; rfl))
            · rw [upd_self, ea]
          · simp (disch := omega) only [upd_ne, true_or, and_self]
  · rw [if_neg hz]; exact h
theorem j2_goN {S : St} {sp nc nt ne m : Nat} (h : J2 S nc nt) (hI : Inv S sp nc nt ne m) (hm : m + 1 < 2 ^ 30) : ∀ t, t ≤ nt → J2 (goN S nt t) nc nt := by
  intro t
  induction t with
  | zero => intro _; exact h
  | succ t ih =>
    intro ht
    obtain ⟨ne', hI'⟩ := inv_goN hI t (by omega)
    exact (ih (by omega)).go hI' hm (by omega)
theorem j2_takN {S : St} {sp nc nt ne m : Nat} (h : J2 S nc nt) (hI : Inv S sp nc nt ne m) : ∀ t, t ≤ nt → J2 (takN S nc nt t) nc nt := by
  intro t
  induction t with
  | zero => intro _; exact h
  | succ t ih =>
    intro ht
    exact (ih (by omega)).take (inv_takN hI t (by omega)) (by omega)
theorem J2.mA {S : St} {sp nc nt ne m : Nat} (h : J2 S nc nt) (hI : Inv S sp nc nt ne m) : J2 (minA S m nc) nc nt := by
  unfold minA
  split
  · exact h.cold hI.n14
  · exact h
theorem J2.min {S : St} {sp nc nt ne m : Nat} (h : J2 S nc nt) (hI : Inv S sp nc nt ne m) (hm : m + 1 < 2 ^ 30) : J2 (minS S m nc nt) nc nt := by
  have I1 := inv_minA hI
  have J1 := h.mA hI
  obtain ⟨ne', I2⟩ := inv_goN I1 nt (Nat.le_refl _)
  exact (j2_takN (j2_goN J1 I1 hm nt (Nat.le_refl _)) I2 nt (Nat.le_refl _)).u9
theorem j2_run {sp nc nt : Nat} : ∀ (f : Nat) (S : St) (ne m : Nat), Inv S sp nc nt ne m → J2 S nc nt → m + f < 2 ^ 30 → J2 (runS nc nt f S m).1 nc nt := by
  intro f
  induction f with
  | zero => intro S ne m _ h _; exact h
  | succ f ih =>
    intro S ne m hI h hm
    unfold runS
    split
    · exact h
    · obtain ⟨ne', I'⟩ := inv_min hI
      exact ih _ ne' _ I' (h.min hI (by omega)) (by omega)
theorem j2_pas {S : St} {sp nc nt ne m : Nat} (h : J2 S nc nt) (hI : Inv S sp nc nt ne m) : ∀ k, m + k < 2 ^ 30 → J2 (pasS nc nt S m k) nc nt := by
  intro k
  induction k with
  | zero => intro _; exact h
  | succ k ih =>
    intro hk
    obtain ⟨ne', I'⟩ := inv_pas hI k
    exact (ih (by omega)).min I' (by omega)
