/-! THE DRILL AND THE REFERENCE HOLD THE SAME: lemmas -/
theorem inv_addC {S : St} {sp nc nt ne m a r co : Nat} {ch : Int32} (h : Inv S sp nc nt ne m) (h14 : nc < 14) (ha : a < sp) (hr1 : 1 ≤ r) (hr2 : r ≤ 4) (hco : co ≤ 20) (hch : ch = 0 ∨ ch = 1) : Inv (hangS (upd S 7 (nI (nc + 1))) nc (nI a) (nI r) (nI co) ch) sp (nc + 1) nt ne m := by
  have out : ∀ i, i ≠ 7 → (i < 13 + 8 * nc ∨ 13 + 8 * nc + 8 ≤ i) → hangS (upd S 7 (nI (nc + 1))) nc (nI a) (nI r) (nI co) ch i = S i := fun i q1 q2 => by rw [hangS_ne q2, upd_ne _ _ q1]
  have g0 : hangS (upd S 7 (nI (nc + 1))) nc (nI a) (nI r) (nI co) ch (13 + 8 * nc + 0) = nI a := by
    unfold hangS waitS
    simp (disch := omega) only [upd_self, upd_ne]
  have g1 : hangS (upd S 7 (nI (nc + 1))) nc (nI a) (nI r) (nI co) ch (13 + 8 * nc + 1) = nI r := by
    unfold hangS waitS
    simp (disch := omega) only [upd_self, upd_ne]
  have g2 : hangS (upd S 7 (nI (nc + 1))) nc (nI a) (nI r) (nI co) ch (13 + 8 * nc + 2) = nI co := by
    unfold hangS waitS
    simp (disch := omega) only [upd_self, upd_ne]
  have g3 : hangS (upd S 7 (nI (nc + 1))) nc (nI a) (nI r) (nI co) ch (13 + 8 * nc + 3) = ch := by
    unfold hangS waitS
    simp (disch := omega) only [upd_self, upd_ne]
  have g4 : hangS (upd S 7 (nI (nc + 1))) nc (nI a) (nI r) (nI co) ch (13 + 8 * nc + 4) = 0 := by
    unfold hangS waitS
    simp (disch := omega) only [upd_self, upd_ne]
  obtain ⟨⟨⟨a1, a2, a3, a4⟩, b1, b2, b3, b4, b5, b6⟩, hE, hC, hT⟩ := h
  generalize hZ7 : hangS (upd S 7 (nI (nc + 1))) nc (nI a) (nI r) (nI co) ch = Z at out g0 g1 g2 g3 g4 ⊢
  have g7 : Z 7 = nI (nc + 1) := by rw [← hZ7]; exact (hangS_ne (by omega)).trans (upd_self _ _ _)
  refine ⟨⟨⟨by rw [out 0 (by omega) (by omega)]; exact a1, a2, a3, fun j hj => by rw [out (1 + j) (by omega) (by omega)]; exact a4 j hj⟩, g7, by omega, by rw [out 8 (by omega) (by omega)]; exact b3, b4, by rw [out 9 (by omega) (by omega)]; exact b5, by rw [out 12 (by omega) (by omega)]; exact b6⟩, ?_, fun d hd => ?_, fun t ht => ?_⟩
  · rw [hE]
    show cntE S nc = cntE Z nc + (if Z (13 + 8 * nc + 4) = 2 then 1 else 0)
    rw [g4, if_neg i02, cntE_eq nc (fun d hd => out _ (by omega) (by omega))]
    rfl
  · by_cases e : d = nc
    · subst e
      unfold chI
      rw [g0, g1, g2, g3, g4]
      exact ⟨⟨a, ha, rfl⟩, ⟨r, hr1, hr2, rfl⟩, ⟨co, hco, rfl⟩, hch, Or.inl rfl⟩
    · exact chI_eq (out _ (by omega) (by omega)) (out _ (by omega) (by omega)) (out _ (by omega) (by omega)) (out _ (by omega) (by omega)) (out _ (by omega) (by omega)) (hC d (by omega))
  · obtain ⟨ta, tb, td⟩ := hT t ht
    unfold tmI
    rw [out (125 + 8 * t + 0) (by omega) (by omega), out (125 + 8 * t + 1) (by omega) (by omega), out (125 + 8 * t + 2) (by omega) (by omega), out (125 + 8 * t + 4) (by omega) (by omega)]
    refine ⟨ta, tb, ?_⟩
    rcases td with td | ⟨d1, x, d2, d3, d4, d5⟩
    · exact Or.inl td
    · exact Or.inr ⟨d1, x, by omega, d3, by rw [out _ (by omega) (by omega)]; exact d4, by rw [out _ (by omega) (by omega)]; exact d5⟩
theorem Ag.hang {a b : St} {nc nt ne : Nat} (h : Ag nc nt ne a b) (n x1 x2 x3 x4 : Int32) : Ag (nc + 1) nt ne (hangS (upd a 7 n) nc x1 x2 x3 x4) (hangS (upd b 7 n) nc x1 x2 x3 x4) := fun i hi => by
  unfold hangS waitS upd
  by_cases q : 13 + 8 * nc ≤ i ∧ i < 13 + 8 * nc + 8
  · rcases (show i = 13 + 8 * nc + 0 ∨ i = 13 + 8 * nc + 1 ∨ i = 13 + 8 * nc + 2 ∨ i = 13 + 8 * nc + 3 ∨ i = 13 + 8 * nc + 4 ∨ i = 13 + 8 * nc + 5 ∨ i = 13 + 8 * nc + 6 ∨ i = 13 + 8 * nc + 7 by omega) with e | e | e | e | e | e | e | e <;> simp [e]
  · have e : a i = b i := h i (by unfold liveQ at hi ⊢; omega)
    simp only [e]
theorem Ag.stand {a b : St} {nc nt ne : Nat} (h : Ag nc nt ne a b) (n x1 x2 : Int32) : Ag nc (nt + 1) ne (standS (upd a 8 n) nt x1 x2) (standS (upd b 8 n) nt x1 x2) := fun i hi => by
  unfold standS idleS upd
  by_cases q : 125 + 8 * nt ≤ i ∧ i < 125 + 8 * nt + 8
  · rcases (show i = 125 + 8 * nt + 0 ∨ i = 125 + 8 * nt + 1 ∨ i = 125 + 8 * nt + 2 ∨ i = 125 + 8 * nt + 3 ∨ i = 125 + 8 * nt + 4 ∨ i = 125 + 8 * nt + 5 ∨ i = 125 + 8 * nt + 6 ∨ i = 125 + 8 * nt + 7 by omega) with e | e | e | e | e | e | e | e <;> simp [e]
  · have e : a i = b i := h i (by unfold liveQ at hi ⊢; omega)
    simp only [e]
theorem Ag.wait {a b : St} {nc nt ne : Nat} (h : Ag nc nt ne a b) (c : Nat) : Ag nc nt ne (waitS a c) (waitS b c) := (h.up rfl).up rfl
theorem inv_way {S : St} {sp nc nt ne m k mi : Nat} (h : Inv S sp nc nt ne m) (hk : k < 6) (h1 : 1 ≤ mi) (h2 : mi ≤ 20) : Inv (upd S (1 + k) (nI mi)) sp nc nt ne m := by
  obtain ⟨⟨⟨a1, a2, a3, a4⟩, b1, b2, b3, b4, b5, b6⟩, hE, hC, hT⟩ := h
  refine ⟨⟨⟨by rw [upd_ne _ _ (by omega)]; exact a1, a2, a3, fun j hj => ?_⟩, by rw [upd_ne _ _ (by omega)]; exact b1, b2, by rw [upd_ne _ _ (by omega)]; exact b3, b4, by rw [upd_ne _ _ (by omega)]; exact b5, by rw [upd_ne _ _ (by omega)]; exact b6⟩, by rw [cntE_eq nc (fun d hd => upd_ne _ _ (by omega))]; exact hE, fun d hd => ?_, fun t ht => ?_⟩
  · by_cases e : j = k
    · subst e
      exact ⟨mi, h1, h2, upd_self _ _ _⟩
    · rw [upd_ne _ _ (by omega)]; exact a4 j hj
  · exact chI_eq (upd_ne _ _ (by omega)) (upd_ne _ _ (by omega)) (upd_ne _ _ (by omega)) (upd_ne _ _ (by omega)) (upd_ne _ _ (by omega)) (hC d hd)
  · exact tmI_eq (upd_ne _ _ (by omega)) (upd_ne _ _ (by omega)) (upd_ne _ _ (by omega)) (upd_ne _ _ (by omega)) (fun d hd p q => by rw [upd_ne _ _ (by omega), upd_ne _ _ (by omega)]; exact ⟨p, q⟩) (hT t ht)
theorem inv_idle {S : St} {sp nc nt ne m t : Nat} (h : Inv S sp nc nt ne m) (ht : t < nt) : Inv (idleS S t) sp nc nt ne m := by
  obtain ⟨a, b, -⟩ := h.2.2.2 t ht
  refine inv_team h ht (fun i hi => idleS_ne (by omega)) ?_
  unfold tmI
  refine ⟨by rw [idleS_ne (by omega)]; exact a, by rw [idleS_ne (by omega)]; exact b, Or.inl ⟨Or.inl ?_, ?_⟩⟩
  · rw [idleS, upd_ne _ _ (by omega), upd_ne _ _ (by omega), upd_self]
  · rw [idleS, upd_self]
theorem inv_off {S : St} {sp nc nt ne m t c : Nat} (h : Inv S sp nc nt ne m) (ht : t < nt) (hc : c < nc) (e4 : S (125 + 8 * t + 4) = nI c) : Inv (idleS (waitS S c) t) sp nc nt ne m := by
  have h14 := h.1.2.2.1
  have hnt := h.n4
  obtain ⟨ta, tb, td⟩ := h.2.2.2 t ht
  have hb : S (13 + 8 * c + 4) = 1 ∧ S (13 + 8 * c + 5) = nI t := by
    rcases td with ⟨-, q⟩ | ⟨-, x, d2, d3, d4, d5⟩
    · rw [e4] at q; exact absurd q (nI_ne_m1 (by omega))
    · rw [e4] at d3
      have := nI_inj (by omega) (by omega) d3
      subst this
      exact ⟨d4, d5⟩
  have out : ∀ i, i ≠ 13 + 8 * c + 4 → i ≠ 13 + 8 * c + 5 → (i < 125 + 8 * t + 2 ∨ 125 + 8 * t + 4 < i) → idleS (waitS S c) t i = S i := fun i q1 q2 q3 => by rw [idleS_ne q3, waitS_ne q1 q2]
  refine ⟨hdI_eq (fun i hi _ _ => out i (by omega) (by omega) (by omega)) h.1, ?_, fun d hd => ?_, fun u hu => ?_⟩
  · rw [cntE_iff (S := S) nc (fun d hd => ?_)]
    · exact h.2.1
    · by_cases e : d = c
      · subst e
        rw [idleS_ne (by omega), waitS, upd_ne _ _ (by omega), upd_self, hb.1]
        exact ⟨fun q => absurd q i02, fun q => absurd q i12⟩
      · rw [out _ (by omega) (by omega) (by omega)]
  · by_cases e : d = c
    · subst e
      obtain ⟨c0, c1, c2, c3, -⟩ := h.2.2.1 d hd
      unfold chI
      rw [out (13 + 8 * d + 0) (by omega) (by omega) (by omega), out (13 + 8 * d + 1) (by omega) (by omega) (by omega), out (13 + 8 * d + 2) (by omega) (by omega) (by omega), out (13 + 8 * d + 3) (by omega) (by omega) (by omega)]
      refine ⟨c0, c1, c2, c3, Or.inl ?_⟩
      rw [idleS_ne (by omega), waitS, upd_ne _ _ (by omega), upd_self]
    · exact chI_eq (out _ (by omega) (by omega) (by omega)) (out _ (by omega) (by omega) (by omega)) (out _ (by omega) (by omega) (by omega)) (out _ (by omega) (by omega) (by omega)) (out _ (by omega) (by omega) (by omega)) (h.2.2.1 d hd)
  · by_cases e : u = t
    · subst e
      unfold tmI
      refine ⟨by rw [out _ (by omega) (by omega) (by omega)]; exact ta, by rw [out _ (by omega) (by omega) (by omega)]; exact tb, Or.inl ⟨Or.inl ?_, ?_⟩⟩
      · rw [idleS, upd_ne _ _ (by omega), upd_ne _ _ (by omega), upd_self]
      · rw [idleS, upd_self]
    · refine tmI_eq (out _ (by omega) (by omega) (by omega)) (out _ (by omega) (by omega) (by omega)) (out _ (by omega) (by omega) (by omega)) (out _ (by omega) (by omega) (by omega)) (fun d hd p q => ?_) (h.2.2.2 u hu)
      have hdc : d ≠ c := by
        intro z
        subst z
        rw [hb.2] at q
        exact e (nI_inj (by omega) (by omega) q).symm
      rw [out (13 + 8 * d + 4) (by omega) (by omega) (by omega), out (13 + 8 * d + 5) (by omega) (by omega) (by omega)]
      exact ⟨p, q⟩
theorem pas_ag {a b : St} {sp nc nt ne m : Nat} (h : Ag nc nt ne a b) (hI : Inv b sp nc nt ne m) : ∀ k, ∃ ne', Ag nc nt ne' (pasS nc nt a m k) (pasS nc nt b m k) ∧ Inv (pasS nc nt b m k) sp nc nt ne' (m + k) := by
  intro k
  induction k with
  | zero => exact ⟨ne, h, hI⟩
  | succ k ih =>
    obtain ⟨ne1, a1, a2⟩ := ih
    obtain ⟨ne2, b1, b2⟩ := a1.min a2
    exact ⟨ne2, b1, b2⟩
theorem tell_ag {a b T T' : St} {sp nc nt ne m : Nat} (h : Ag nc nt ne a b) (hI : Inv b sp nc nt ne m) (hT : ∀ c, c < nc → T (13 + 8 * c + 6) = T' (13 + 8 * c + 6)) : ∀ n, n ≤ nc → Ag nc nt ne (tellS a T n) (tellS b T' n) ∧ tellC a T n = tellC b T' n := by
  intro n
  induction n with
  | zero => intro _; exact ⟨h, rfl⟩
  | succ n ih =>
    intro hn
    obtain ⟨h1, h2⟩ := ih (by omega)
    rw [tellS_s, tellS_s, tellC_s, tellC_s, h1.ch (c := n) (by omega) (by omega), hT n (by omega), h2]
    by_cases q : tellS b T' n (13 + 8 * n + 4) = 2
    · rw [if_pos q, if_pos q, if_pos q]; exact ⟨h1, rfl⟩
    · rw [if_neg q, if_neg q, if_neg q]; exact ⟨h1.up rfl, rfl⟩
theorem inv_tell {S T : St} {sp nc nt ne m : Nat} (h : Inv S sp nc nt ne m) (n : Nat) (hn : n ≤ nc) : Inv (tellS S T n) sp nc nt ne m := by
  have h14 := h.n14
  have h7 : ∀ n i, (∀ c, c < n → i ≠ 13 + 8 * c + 7) → tellS S T n i = S i := by
    intro n
    induction n with
    | zero => intro i _; rfl
    | succ n ih =>
      intro i hi
      rw [tellS_s]
      split
      · exact ih i (fun c hc => hi c (by omega))
      · rw [upd_ne _ _ (hi n (by omega))]; exact ih i (fun c hc => hi c (by omega))
  have out : ∀ i, (i < 13 ∨ 125 ≤ i ∨ ∃ c k, i = 13 + 8 * c + k ∧ k < 7) → tellS S T n i = S i := fun i hi => h7 n i (fun c hc => by rcases hi with hi | hi | ⟨d, k, hi, hk⟩ <;> omega)
  refine ⟨hdI_eq (fun i hi _ _ => out i (Or.inl hi)) h.1, by rw [cntE_eq nc (fun d hd => out _ (Or.inr (Or.inr ⟨d, 4, rfl, by omega⟩)))]; exact h.2.1, fun d hd => ?_, fun t ht => ?_⟩
  · exact chI_eq (out _ (Or.inr (Or.inr ⟨d, 0, rfl, by omega⟩))) (out _ (Or.inr (Or.inr ⟨d, 1, rfl, by omega⟩))) (out _ (Or.inr (Or.inr ⟨d, 2, rfl, by omega⟩))) (out _ (Or.inr (Or.inr ⟨d, 3, rfl, by omega⟩))) (out _ (Or.inr (Or.inr ⟨d, 4, rfl, by omega⟩))) (h.2.2.1 d hd)
  · exact tmI_eq (out _ (Or.inr (Or.inl (by omega)))) (out _ (Or.inr (Or.inl (by omega)))) (out _ (Or.inr (Or.inl (by omega)))) (out _ (Or.inr (Or.inl (by omega)))) (fun d hd p q => by rw [out _ (Or.inr (Or.inr ⟨d, 4, rfl, by omega⟩)), out _ (Or.inr (Or.inr ⟨d, 5, rfl, by omega⟩))]; exact ⟨p, q⟩) (h.2.2.2 t ht)
section ASKS
variable {a b : St} {sp nc nt ne m : Nat}
theorem Ag.fact (h : Ag nc nt ne a b) {c k : Nat} (hc : c < nc) (hk : k < 9) : chFact a c k = chFact b c k := by
  unfold chFact
  by_cases q : k < 4
  · rw [if_pos q, if_pos q, h.ch hc (by omega)]
  · rw [if_neg q, if_neg q]
    by_cases q2 : k = 4
    · rw [if_pos q2, if_pos q2, h.rk hc]
    · rw [if_neg q2, if_neg q2, h.ch hc (by omega)]
theorem Ag.cnt (h : Ag nc nt ne a b) (x : Int32) : ∀ n, n ≤ nc → cntI a x n = cntI b x n := by
  intro n
  induction n with
  | zero => intro _; rfl
  | succ n ih => intro hn; rw [cntI_s, cntI_s, ih (by omega), h.ch (c := n) (by omega) (by omega)]
theorem Ag.rd (h : Ag nc nt ne a b) (x : Int32) : ∀ n, n ≤ nc → rdI a x n = rdI b x n := by
  intro n
  induction n with
  | zero => intro _; rfl
  | succ n ih => intro hn; rw [rdI_s, rdI_s, ih (by omega), h.ch (c := n) (k := 4) (by omega) (by omega), h.ch (c := n) (k := 1) (by omega) (by omega)]
theorem Ag.gr (h : Ag nc nt ne a b) : ∀ n, n ≤ nc → grI a n = grI b n := by
  intro n
  induction n with
  | zero => intro _; rfl
  | succ n ih => intro hn; rw [grI_s, grI_s, ih (by omega), h.ch (c := n) (by omega) (by omega), h.rk (c := n) (by omega)]
theorem Ag.ln (h : Ag nc nt ne a b) {k : Nat} (hk : k < 12) : lnFact a nc k = lnFact b nc k := by
  rcases (show k = 0 ∨ k = 1 ∨ k = 2 ∨ k = 3 ∨ k = 4 ∨ k = 5 ∨ k = 6 ∨ k = 7 ∨ k = 8 ∨ k = 9 ∨ k = 10 ∨ k = 11 by omega) with rfl | rfl | rfl | rfl | rfl | rfl | rfl | rfl | rfl | rfl | rfl | rfl
  · exact h.lo (by omega)
  · exact h.lo (by omega)
  · exact h.lo (by omega)
  · exact h.lo (by omega)
  · exact h.cnt 0 nc (Nat.le_refl _)
  · exact h.cnt 1 nc (Nat.le_refl _)
  · exact h.cnt 2 nc (Nat.le_refl _)
  · show rdI a 0 nc + rdI a 1 nc = rdI b 0 nc + rdI b 1 nc
    rw [h.rd 0 nc (Nat.le_refl _), h.rd 1 nc (Nat.le_refl _)]
  · exact h.rd 2 nc (Nat.le_refl _)
  · exact h.lo (by omega)
  · exact h.lo (by omega)
  · exact h.gr nc (Nat.le_refl _)
theorem Ag.mcS (h : Ag nc nt ne a b) : ∀ n, n ≤ nc → mcS a n = mcS b n := by
  intro n
  induction n with
  | zero => intro _; rfl
  | succ n ih => intro hn; rw [mcS_s, mcS_s, ih (by omega), h.ch (c := n) (k := 4) (by omega) (by omega), h.ch (c := n) (k := 2) (by omega) (by omega)]
theorem Ag.mcN (h : Ag nc nt ne a b) : ∀ n, n ≤ nc → mcN a n = mcN b n := by
  intro n
  induction n with
  | zero => intro _; rfl
  | succ n ih => intro hn; rw [mcN_s, mcN_s, ih (by omega), h.ch (c := n) (k := 4) (by omega) (by omega)]
end ASKS
