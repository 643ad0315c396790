/-! MORE THAT IS THE SAME -/
theorem parse_eq {T S1 : St} {n : Nat} (hn : n ≤ 100) : PQ T n (rtF T n S1) (rl T n (n + 1) 0 0 z0) := by
  have w6 : ∀ n, n ≤ 6 → ∀ k, k < n → rstW (rst0 S1 1) n (1 + k) = 4 := by
    intro n
    induction n with
    | zero => intro _ k hk; omega
    | succ n ih =>
      intro hn k hk
      show upd (rstW (rst0 S1 1) n) (1 + n) 4 (1 + k) = 4
      by_cases e : k = n
      · subst e; exact upd_self _ _ _
      · rw [upd_ne _ _ (by omega)]; exact ih (by omega) k (by omega)
  have hi : ∀ i, i = 0 ∨ 7 ≤ i → rstS S1 1 i = rst0 S1 1 i := fun i h => rstW_ne h 6 (by omega)
  have e0 : rstS S1 1 0 = 1 := by
    rw [hi 0 (by omega)]; unfold rst0
    simp (disch := omega) only [upd_self, upd_ne]
  have e7 : ∀ i, 7 ≤ i → i < 13 → rstS S1 1 i = 0 := by
    intro i h1 h2
    rw [hi i (by omega)]; unfold rst0
    rcases (show i = 7 ∨ i = 8 ∨ i = 9 ∨ i = 10 ∨ i = 11 ∨ i = 12 by omega) with rfl | rfl | rfl | rfl | rfl | rfl <;> simp (disch := omega) only [upd_self, upd_ne]
  have hI : Inv (rstS S1 1) 1 0 0 0 0 := by
    refine ⟨⟨⟨e0, by omega, by omega, fun k hk => ⟨4, by omega, by omega, w6 6 (by omega) k hk⟩⟩, e7 7 (by omega) (by omega), by omega, e7 8 (by omega) (by omega), by omega, e7 9 (by omega) (by omega), e7 12 (by omega) (by omega)⟩, rfl, fun c hc => by omega, fun t ht => by omega⟩
  have hA : Ag 0 0 0 (rstS S1 1) (upd z0 0 (nI (0 + 1))) := by
    intro i h
    have h13 : i < 13 := by unfold liveQ at h; omega
    by_cases q : i = 0
    · subst q
      rw [upd_self, e0]; rfl
    · rw [upd_ne _ _ q]
      unfold z0
      by_cases q2 : i < 7
      · rw [if_pos ⟨by omega, q2⟩]
        obtain ⟨k, rfl⟩ : ∃ k, i = 1 + k := ⟨i - 1, by omega⟩
        exact w6 6 (by omega) k (by omega)
      · rw [if_neg (by omega)]
        exact e7 i (by omega) h13
  have h := rtl (T := T) hn (n + 1) 0 0 0 (rstS S1 1) z0 0 (by omega) (by omega) (by omega) hI hA (Or.inl rfl)
  exact h
/-! emptied chairs keep their minute -/
def KE (c : Nat) (S S' : St) : Prop := S' (13 + 8 * c + 4) = S (13 + 8 * c + 4) ∧ S' (13 + 8 * c + 6) = S (13 + 8 * c + 6)
theorem KE.refl {c : Nat} {S : St} : KE c S S := ⟨rfl, rfl⟩
theorem KE.trans {c : Nat} {a b d : St} (h1 : KE c a b) (h2 : KE c b d) : KE c a d := ⟨h2.1.trans h1.1, h2.2.trans h1.2⟩
theorem KE.up {c : Nat} {a b : St} {i : Nat} {x : Int32} (h : KE c a b) (h4 : 13 + 8 * c + 4 ≠ i) (h6 : 13 + 8 * c + 6 ≠ i) : KE c a (upd b i x) := ⟨(upd_ne _ _ h4).trans h.1, (upd_ne _ _ h6).trans h.2⟩
theorem ke_cold {S : St} {c : Nat} : ∀ n, KE c S (coldS S n) := by
  intro n
  induction n with
  | zero => exact KE.refl
  | succ n ih =>
    rw [coldS_s]
    unfold cold1
    split
    · exact ih
    · exact ih.up (by omega) (by omega)
theorem ke_go {S : St} {sp nc nt ne m t c : Nat} (hI : Inv S sp nc nt ne m) (ht : t < nt) (hc : c < nc) (e : S (13 + 8 * c + 4) = 2) : KE c S (goS S nt t) := by
  have hn := hI.n14
  have hn4 := hI.n4
  unfold goS
  split
  · exact KE.refl
  · rename_i hz
    have k1 : KE c S (go2 (go1 S t) t) := by
      unfold go2 go1
      split
      · exact (KE.refl.up (by omega) (by omega)).up (by omega) (by omega)
      · exact KE.refl.up (by omega) (by omega)
    have IA := inv_go2 hI (t := t) (by omega)
    rw [← go12_ne (S := S) (t := t) (i := 125 + 8 * t + 2) (by omega) (by omega)] at hz
    have e' : go2 (go1 S t) t (13 + 8 * c + 4) = 2 := k1.1.trans e
    refine k1.trans ?_
    generalize go2 (go1 S t) t = Z at IA hz e' ⊢
    unfold go3
    split
    · split
      · unfold restS idleS
        exact (((KE.refl.up (by omega) (by omega)).up (by omega) (by omega)).up (by omega) (by omega)).up (by omega) (by omega)
      · rename_i r3
        obtain ⟨-, x, hx, e4, e5, e6⟩ := (IA.2.2.2 t ht).busy hz r3
        rw [e4, cnt, nI_clamp (by omega)]
        split
        · unfold bringS
          exact ((KE.refl.up (by omega) (by omega)).up (by omega) (by omega)).up (by omega) (by omega)
        · have hne := (inv_fin IA ht hx e5 e6).2
          have hxc : x ≠ c := fun q => by rw [q, e'] at e5; exact i21 e5
          exact ⟨finS_out IA.c12 (by omega) (by omega) (by omega) (by omega) (by omega) (by omega) (by omega) (by omega), finS_out IA.c12 (by omega) (by omega) (by omega) (by omega) (by omega) (by omega) (by omega) (by omega)⟩
    · exact KE.refl
theorem ke_take {S : St} {sp nc nt ne m t c : Nat} (hI : Inv S sp nc nt ne m) (ht : t < nt) (hc : c < nc) (e : S (13 + 8 * c + 4) = 2) : KE c S (takeS S nc nt t) := by
  have hn := hI.n14
  have hn4 := hI.n4
  unfold takeS
  split
  · rcases chs_in S (S (125 + 8 * t + 0)) nc (by omega) with hp | ⟨x, hx, hp, h0⟩
    · rw [if_pos hp]; exact KE.refl
    · rw [if_neg (by rw [hp]; exact nI_ne_m1 (by omega)), hp, cnt, nI_clamp (by omega)]
      have hxc : x ≠ c := fun q => by rw [q, e] at h0; exact i20 h0
      have k1 : KE c S (takS S t x) := ((KE.refl.up (by omega) (by omega)).up (by omega) (by omega)).up (by omega) (by omega)
      unfold tak2
      split
      · unfold bringS
        exact ((k1.up (by omega) (by omega)).up (by omega) (by omega)).up (by omega) (by omega)
      · exact (k1.up (by omega) (by omega)).up (by omega) (by omega)
  · exact KE.refl
theorem ke_min {S : St} {sp nc nt ne m c : Nat} (hI : Inv S sp nc nt ne m) (hc : c < nc) (e : S (13 + 8 * c + 4) = 2) : KE c S (minS S m nc nt) := by
  have k0 : KE c S (minA S m nc) := by
    unfold minA
    split
    · exact ke_cold nc
    · exact KE.refl
  have I0 := inv_minA hI
  have go : ∀ t, t ≤ nt → KE c S (goN (minA S m nc) nt t) := by
    intro t
    induction t with
    | zero => intro _; exact k0
    | succ t ih =>
      intro ht
      have h1 := ih (by omega)
      obtain ⟨ne1, I1⟩ := inv_goN I0 t (by omega)
      exact h1.trans (ke_go I1 (by omega) hc (h1.1.trans e))
  obtain ⟨ne1, I1⟩ := inv_goN I0 nt (Nat.le_refl _)
  have tk : ∀ t, t ≤ nt → KE c S (takN (goN (minA S m nc) nt nt) nc nt t) := by
    intro t
    induction t with
    | zero => intro _; exact go nt (Nat.le_refl _)
    | succ t ih =>
      intro ht
      have h1 := ih (by omega)
      exact h1.trans (ke_take (inv_takN I1 t (by omega)) (by omega) hc (h1.1.trans e))
  exact (tk nt (Nat.le_refl _)).up (by omega) (by omega)
theorem ke_run {sp nc nt c : Nat} (hc : c < nc) : ∀ (f : Nat) (S : St) (ne m : Nat), Inv S sp nc nt ne m → S (13 + 8 * c + 4) = 2 → KE c S (runS nc nt f S m).1 := by
  intro f
  induction f with
  | zero => intro S ne m _ _; exact KE.refl
  | succ f ih =>
    intro S ne m hI e
    unfold runS
    split
    · exact KE.refl
    · obtain ⟨ne1, I1⟩ := inv_min hI
      have k1 := ke_min hI hc e
      exact k1.trans (ih _ ne1 (m + 1) I1 (k1.1.trans e))
/-! the best span -/
theorem outI_le {R : St × Nat} (h : R.2 ≤ 1000) : outI R = -1 ∨ ∃ j, j ≤ 1000 ∧ outI R = nI j := by
  unfold outI
  split
  · exact Or.inr ⟨_, h, rfl⟩
  · exact Or.inl rfl
theorem bm_ag {S K N I : St} {sp nc nt ne m : Nat} (hI : Inv S sp nc nt ne m) (h4 : nt < 4) : ∀ k, Ag nc nt ne (bM S K N I m nc nt k).2.1 S := by
  intro k
  induction k with
  | zero => exact Ag.refl _
  | succ k ih =>
    intro i hi
    show upd (bmS (bM S K N I m nc nt k).2.1 nt k) 8 (nI nt) i = S i
    by_cases e : i = 8
    · subst e; rw [upd_self]; exact hI.c8.symm
    · rw [upd_ne _ _ e]
      unfold bmS
      rw [standS_ne (by unfold liveQ at hi; have := hI.n14; omega), upd_ne _ _ e]
      exact ih i hi
theorem best_eq {S S0 S1 K N I : St} {sp nc nt ne m : Nat} (h : Ag nc nt ne S0 S) (hI : Inv S sp nc nt ne m) (h4 : nt < 4) : ∀ k, k ≤ sp → (bs S1 S0 m nc nt k).1 = (bM S K N I m nc nt k).1.1 ∧ ((bM S K N I m nc nt k).1.1 = -1 → (bs S1 S0 m nc nt k).2.1 = 1001) ∧ (¬ (bM S K N I m nc nt k).1.1 = -1 → (bs S1 S0 m nc nt k).2.1 = (bM S K N I m nc nt k).1.2) := by
  intro k
  induction k with
  | zero => intro _; exact ⟨rfl, fun _ => rfl, fun q => absurd rfl q⟩
  | succ k ih =>
    intro hk
    obtain ⟨e1, e2, e3⟩ := ih (by omega)
    have hsp := hI.1.1.2.2.1
    have ho : outI (bsR (bs S1 S0 m nc nt k).2.2 S0 m nc nt k) = outI (bmR (bM S K N I m nc nt k).2.1 m nc nt k) ∧ (bmR (bM S K N I m nc nt k).2.1 m nc nt k).2 ≤ 1000 := by
      have hb := inv_bM (K := K) (N := N) (I := I) hI h4 k (by omega)
      have hA : Ag nc nt ne (cpS (bs S1 S0 m nc nt k).2.2 S0 nc nt) (bM S K N I m nc nt k).2.1 := ((cp_ag (by have := hI.nle; have := hI.n14; omega)).trans h).trans (bm_ag hI h4 k).symm
      have hA2 := hA.stand (nI (nt + 1)) (nI k) 0
      have hI2 := inv_bmS hb h4 (show k < sp by omega)
      obtain ⟨ne', a1, a2, a3⟩ := hA2.run 1000 hI2
      obtain ⟨-, -, a4⟩ := inv_run (nc := nc) (nt := nt + 1) 1000 _ _ _ hI2
      refine ⟨?_, a4⟩
      unfold bsR bmR bmS rnS
      rw [if_neg (by omega)]
      unfold outI
      try unfold bmS at a2
      rw [a1.lo (i := 7) (by omega), a1.lo (i := 12) (by omega), a2]
    obtain ⟨ho, hle⟩ := ho
    rw [bs_s, bM_s, ho]
    rcases outI_le hle with q | ⟨j, hj, q⟩
    · show _ ∧ _ ∧ _
      unfold bmP
      rw [if_pos q, if_pos q]
      exact ⟨e1, e2, e3⟩
    · have qn : ¬ outI (bmR (bM S K N I m nc nt k).2.1 m nc nt k) = -1 := by rw [q]; exact nI_ne_m1 (by omega)
      have nk : ¬ nI k = -1 := nI_ne_m1 (by omega)
      unfold bmP
      rw [if_neg qn, if_neg qn]
      by_cases b : (bM S K N I m nc nt k).1.1 = -1
      · rw [if_pos b, e2 b, if_neg (show ¬ (1001 : Int32) ≤ outI (bmR (bM S K N I m nc nt k).2.1 m nc nt k) by rw [q]; exact nI_ge (a := j) (b := 1001) (by omega) (by decide))]
        exact ⟨rfl, fun z => absurd z nk, fun _ => rfl⟩
      · rw [if_neg b, e3 b]
        by_cases l : (bM S K N I m nc nt k).1.2 ≤ outI (bmR (bM S K N I m nc nt k).2.1 m nc nt k)
        · rw [if_pos l, if_pos l]
          exact ⟨e1, fun z => absurd z b, fun _ => rfl⟩
        · rw [if_neg l, if_neg l]
          exact ⟨rfl, fun z => absurd z nk, fun _ => rfl⟩
/-! the mean is a number -/
theorem mean_num : ∀ a, a < 281 → ∀ b, b < 14 → vf_n64 (FP.ddiv (FP.i2d (nI a)) (FP.i2d (nI (b + 1)))) := by
  unfold vf_n64
  decide +kernel
theorem mc_is {S : St} {sp nc nt ne m : Nat} (hI : Inv S sp nc nt ne m) : ∀ n, n ≤ nc → ∃ a b, a ≤ 20 * n ∧ b ≤ n ∧ mcS S n = nI a ∧ mcN S n = nI b := by
  intro n
  induction n with
  | zero => intro _; exact ⟨0, 0, by omega, by omega, rfl, rfl⟩
  | succ n ih =>
    intro hn
    obtain ⟨a, b, h1, h2, h3, h4⟩ := ih (by omega)
    obtain ⟨k, hk, e⟩ := (hI.2.2.1 n (by omega)).2.2.1
    rw [mcS_s, mcN_s, h3, h4, e]
    by_cases q : S (13 + 8 * n + 4) = 2
    · rw [if_pos q, if_pos q]; exact ⟨a, b, by omega, by omega, rfl, rfl⟩
    · rw [if_neg q, if_neg q, nI_add, nI_1]; exact ⟨a + k, b + 1, by omega, by omega, rfl, rfl⟩
theorem mean_ok {S : St} {sp nc nt ne m : Nat} (hI : Inv S sp nc nt ne m) : ¬ mcN S nc = 0 → vf_n64 (FP.ddiv (FP.i2d (mcS S nc)) (FP.i2d (mcN S nc))) := by
  intro h
  obtain ⟨a, b, h1, h2, h3, h4⟩ := mc_is hI nc (Nat.le_refl _)
  have := hI.n14
  rw [h4] at h
  obtain ⟨b', rfl⟩ : ∃ b', b = b' + 1 := ⟨b - 1, by
    rcases Nat.eq_zero_or_pos b with q | q
    · subst q; exact absurd rfl h
    · omega⟩
  rw [h3, h4]
  exact mean_num a (by omega) b' (by omega)
