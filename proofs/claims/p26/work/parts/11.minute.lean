/-! A MINUTE, AND MANY -/
theorem cntE_iff {S S' : St} : ∀ n, (∀ c, c < n → (S' (13 + 8 * c + 4) = 2 ↔ S (13 + 8 * c + 4) = 2)) → cntE S' n = cntE S n := by
  intro n
  induction n with
  | zero => intro _; rfl
  | succ n ih =>
    intro h
    unfold cntE
    rw [ih (fun c hc => h c (by omega))]
    by_cases e : S (13 + 8 * n + 4) = 2
    · rw [if_pos e, if_pos ((h n (by omega)).mpr e)]
    · rw [if_neg e, if_neg (fun q => e ((h n (by omega)).mp q))]
theorem inv_taken {S S' : St} {sp nc nt ne m t c : Nat} (h : Inv S sp nc nt ne m) (ht : t < nt) (hc : c < nc) (h0 : S (13 + 8 * c + 4) = 0) (ho : ∀ i, i ≠ 13 + 8 * c + 4 → i ≠ 13 + 8 * c + 5 → (i < 125 + 8 * t ∨ 125 + 8 * t + 4 < i) → S' i = S i) (h4 : S' (13 + 8 * c + 4) = 1) (h5 : S' (13 + 8 * c + 5) = nI t) (t0 : ∃ a, a < sp ∧ S' (125 + 8 * t + 0) = nI a) (t1 : S' (125 + 8 * t + 1) = S (125 + 8 * t + 1)) (t2 : S' (125 + 8 * t + 2) = 1 ∨ S' (125 + 8 * t + 2) = 2) (t4 : S' (125 + 8 * t + 4) = nI c) : Inv S' sp nc nt ne m := by
  have h14 := h.1.2.2.1
  have hnt := h.1.2.2.2.2.1
  refine ⟨hdI_eq (fun i hi _ _ => ho i (by omega) (by omega) (by omega)) h.1, ?_, fun d hd => ?_, fun u hu => ?_⟩
  · rw [cntE_iff (S := S) nc (fun d hd => ?_)]
    · exact h.2.1
    · by_cases e : d = c
      · subst e
        rw [h4, h0]
        exact ⟨fun q => absurd q i12, fun q => absurd q i02⟩
      · rw [ho _ (by omega) (by omega) (by omega)]
  · by_cases e : d = c
    · subst e
      obtain ⟨c0, c1, c2, c3, -⟩ := h.2.2.1 d hd
      unfold chI
      rw [h4, ho (13 + 8 * d + 0) (by omega) (by omega) (by omega), ho (13 + 8 * d + 1) (by omega) (by omega) (by omega), ho (13 + 8 * d + 2) (by omega) (by omega) (by omega), ho (13 + 8 * d + 3) (by omega) (by omega) (by omega)]
      exact ⟨c0, c1, c2, c3, Or.inr (Or.inl rfl)⟩
    · exact chI_eq (ho _ (by omega) (by omega) (by omega)) (ho _ (by omega) (by omega) (by omega)) (ho _ (by omega) (by omega) (by omega)) (ho _ (by omega) (by omega) (by omega)) (ho _ (by omega) (by omega) (by omega)) (h.2.2.1 d hd)
  · by_cases e : u = t
    · subst e
      refine ⟨t0, by rw [t1]; exact (h.2.2.2 u hu).2.1, Or.inr ⟨t2, c, hc, t4, h4, h5⟩⟩
    · refine tmI_eq (ho _ (by omega) (by omega) (by omega)) (ho _ (by omega) (by omega) (by omega)) (ho _ (by omega) (by omega) (by omega)) (ho _ (by omega) (by omega) (by omega)) (fun d hd p q => ?_) (h.2.2.2 u hu)
      have hdc : d ≠ c := by
        intro z
        subst z
        rw [h0] at p
        exact i01 p
      rw [ho _ (by omega) (by omega) (by omega), ho _ (by omega) (by omega) (by omega)]
      exact ⟨p, q⟩
theorem tak_ne {S : St} {t c i : Nat} (h : i ≠ 13 + 8 * c + 4) (h2 : i ≠ 13 + 8 * c + 5) (h3 : i ≠ 125 + 8 * t + 4) : takS S t c i = S i := by
  unfold takS
  rw [upd_ne _ _ h3, upd_ne _ _ h2, upd_ne _ _ h]
theorem inv_take {S : St} {sp nc nt ne m t : Nat} (h : Inv S sp nc nt ne m) (ht : t < nt) : Inv (takeS S nc nt t) sp nc nt ne m := by
  have h14 := h.1.2.2.1
  have hnt := h.1.2.2.2.2.1
  unfold takeS
  split
  · rcases chs_in S (S (125 + 8 * t + 0)) nc (by omega) with hp | ⟨c, hc, hp, h0⟩
    · rw [if_pos hp]; exact h
    · rw [if_neg (by rw [hp]; exact nI_ne_m1 (by omega)), hp, cnt, nI_clamp (by omega)]
      have a4 : takS S t c (13 + 8 * c + 4) = 1 := by rw [takS, upd_ne _ _ (by omega), upd_ne _ _ (by omega), upd_self]
      have a5 : takS S t c (13 + 8 * c + 5) = nI t := by rw [takS, upd_ne _ _ (by omega), upd_self]
      have b4 : takS S t c (125 + 8 * t + 4) = nI c := by rw [takS, upd_self]
      have cs : takS S t c (13 + 8 * c + 0) = S (13 + 8 * c + 0) := tak_ne (by omega) (by omega) (by omega)
      unfold tak2
      split
      · have o' : ∀ i, i ≠ 125 + 8 * t + 0 → i ≠ 125 + 8 * t + 2 → i ≠ 125 + 8 * t + 3 → bringS (takS S t c) nt t c (nI t) i = takS S t c i := fun i q1 q2 q3 => by
          unfold bringS
          rw [upd_ne _ _ q2, upd_ne _ _ q3, upd_ne _ _ q1]
        refine inv_taken h ht hc h0 (fun i q1 q2 q3 => ?_) ?_ ?_ ?_ ?_ ?_ ?_
        · rw [o' _ (by omega) (by omega) (by omega), tak_ne q1 q2 (by omega)]
        · rw [o' _ (by omega) (by omega) (by omega)]; exact a4
        · rw [o' _ (by omega) (by omega) (by omega)]; exact a5
        · have e0 : bringS (takS S t c) nt t c (nI t) (125 + 8 * t + 0) = S (13 + 8 * c + 0) := by
            unfold bringS
            rw [upd_ne _ _ (by omega), upd_ne _ _ (by omega), upd_self, cs]
          rw [e0]; exact (h.2.2.1 c hc).1
        · rw [o' _ (by omega) (by omega) (by omega), tak_ne (by omega) (by omega) (by omega)]
        · exact Or.inr (by unfold bringS; rw [upd_self])
        · rw [o' _ (by omega) (by omega) (by omega)]; exact b4
      · generalize wayV (takS S t c) (takS S t c (125 + 8 * t + 0)) (takS S t c (13 + 8 * c + 0)) = x
        refine inv_taken h ht hc h0 (fun i q1 q2 q3 => ?_) ?_ ?_ ?_ ?_ ?_ ?_
        · rw [upd_ne _ _ (by omega), upd_ne _ _ (by omega), tak_ne q1 q2 (by omega)]
        · rw [upd_ne _ _ (by omega), upd_ne _ _ (by omega)]; exact a4
        · rw [upd_ne _ _ (by omega), upd_ne _ _ (by omega)]; exact a5
        · rw [upd_ne _ _ (by omega), upd_ne _ _ (by omega), tak_ne (by omega) (by omega) (by omega)]; exact (h.2.2.2 t ht).1
        · rw [upd_ne _ _ (by omega), upd_ne _ _ (by omega), tak_ne (by omega) (by omega) (by omega)]
        · exact Or.inl (by rw [upd_ne _ _ (by omega), upd_self])
        · rw [upd_ne _ _ (by omega), upd_ne _ _ (by omega)]; exact b4
  · exact h
theorem inv_go {S : St} {sp nc nt ne m t : Nat} (h : Inv S sp nc nt ne m) (ht : t < nt) : ∃ ne', Inv (goS S nt t) sp nc nt ne' m := by
  have hnt := h.1.2.2.2.2.1
  have hnc := h.1.2.2.1
  unfold goS
  split
  · exact ⟨ne, h⟩
  · rename_i hz
    have h2 := inv_go2 h (t := t) (by omega)
    have d2 : go2 (go1 S t) t (125 + 8 * t + 2) = S (125 + 8 * t + 2) := go12_ne (by omega) (by omega)
    rw [← d2] at hz
    generalize go2 (go1 S t) t = Z at h2 hz
    unfold go3
    split
    · split
      · exact ⟨ne, inv_rest h2 ht⟩
      · rename_i h3
        obtain ⟨hd, c, hc, b1, b2, b3⟩ := (h2.2.2.2 t ht).busy hz h3
        rw [b1, cnt, nI_clamp (by omega)]
        split
        · exact ⟨ne, inv_bring h2 ht hc b1 b2 b3⟩
        · exact ⟨ne + 1, (inv_fin h2 ht hc b2 b3).1⟩
    · exact ⟨ne, h2⟩
theorem inv_goP {S : St} {sp nc nt ne m t : Nat} (h : Inv S sp nc nt ne m) (ht : t < nt) : ¬ S (125 + 8 * t + 2) = 0 → ¬ S (125 + 8 * t + 2) = 3 → ∃ c, c < nc ∧ S (125 + 8 * t + 4) = nI c ∧ ne < 14 := by
  intro h0 h3
  obtain ⟨hd, c, hc, b1, b2, b3⟩ := (h.2.2.2 t ht).busy h0 h3
  have := h.1.2.2.1
  have h2 := cntE_lt nc c hc (by rw [b2]; exact i12 : ¬ S (13 + 8 * c + 4) = 2)
  have h3 := h.2.1
  exact ⟨c, hc, b1, by omega⟩
def goN (S : St) (nt : Nat) : Nat → St
  | 0 => S
  | t + 1 => goS (goN S nt t) nt t
def takN (S : St) (nc nt : Nat) : Nat → St
  | 0 => S
  | t + 1 => takeS (takN S nc nt t) nc nt t
def minA (S : St) (m nc : Nat) : St := if (m + 1) % 10 = 0 then coldS S nc else S
def minS (S : St) (m nc nt : Nat) : St := upd (takN (goN (minA S m nc) nt nt) nc nt nt) 9 (nI (m + 1))
theorem inv_goN {S : St} {sp nc nt ne m : Nat} (h : Inv S sp nc nt ne m) : ∀ t, t ≤ nt → ∃ ne', Inv (goN S nt t) sp nc nt ne' m := by
  intro t
  induction t with
  | zero => intro _; exact ⟨ne, h⟩
  | succ t ih =>
    intro ht
    obtain ⟨ne', h'⟩ := ih (by omega)
    exact inv_go h' (by omega)
theorem inv_takN {S : St} {sp nc nt ne m : Nat} (h : Inv S sp nc nt ne m) : ∀ t, t ≤ nt → Inv (takN S nc nt t) sp nc nt ne m := by
  intro t
  induction t with
  | zero => intro _; exact h
  | succ t ih => intro ht; exact inv_take (ih (by omega)) (by omega)
theorem inv_minA {S : St} {sp nc nt ne m : Nat} (h : Inv S sp nc nt ne m) : Inv (minA S m nc) sp nc nt ne m := by
  unfold minA
  split
  · exact inv_coldS h nc (Nat.le_refl _)
  · exact h
theorem inv_9 {S : St} {sp nc nt ne m m' : Nat} (h : Inv S sp nc nt ne m) : Inv (upd S 9 (nI m')) sp nc nt ne m' := by
  obtain ⟨⟨⟨a1, a2, a3, a4⟩, b1, b2, b3, b4, b5, b6⟩, hE, hC, hT⟩ := h
  refine ⟨⟨⟨by rw [upd_ne _ _ (by omega)]; exact a1, a2, a3, fun k hk => by rw [upd_ne _ _ (by omega)]; exact a4 k hk⟩, by rw [upd_ne _ _ (by omega)]; exact b1, b2, by rw [upd_ne _ _ (by omega)]; exact b3, b4, upd_self _ _ _, by rw [upd_ne _ _ (by omega)]; exact b6⟩, by rw [cntE_eq nc (fun d hd => upd_ne _ _ (by omega))]; exact hE, fun d hd => chI_eq (upd_ne _ _ (by omega)) (upd_ne _ _ (by omega)) (upd_ne _ _ (by omega)) (upd_ne _ _ (by omega)) (upd_ne _ _ (by omega)) (hC d hd), fun t ht => tmI_eq (upd_ne _ _ (by omega)) (upd_ne _ _ (by omega)) (upd_ne _ _ (by omega)) (upd_ne _ _ (by omega)) (fun d hd a b => by rw [upd_ne _ _ (by omega), upd_ne _ _ (by omega)]; exact ⟨a, b⟩) (hT t ht)⟩
theorem inv_min {S : St} {sp nc nt ne m : Nat} (h : Inv S sp nc nt ne m) : ∃ ne', Inv (minS S m nc nt) sp nc nt ne' (m + 1) := by
  obtain ⟨ne', h1⟩ := inv_goN (inv_minA h) nt (Nat.le_refl _)
  exact ⟨ne', inv_9 (inv_takN h1 nt (Nat.le_refl _))⟩
theorem Inv.c7 {S : St} {sp nc nt ne m : Nat} (h : Inv S sp nc nt ne m) : S 7 = nI nc := h.1.2.1
theorem Inv.c8 {S : St} {sp nc nt ne m : Nat} (h : Inv S sp nc nt ne m) : S 8 = nI nt := h.1.2.2.2.1
theorem Inv.c9 {S : St} {sp nc nt ne m : Nat} (h : Inv S sp nc nt ne m) : S 9 = nI m := h.1.2.2.2.2.2.1
theorem Inv.c12 {S : St} {sp nc nt ne m : Nat} (h : Inv S sp nc nt ne m) : S 12 = nI ne := h.1.2.2.2.2.2.2
theorem Inv.n14 {S : St} {sp nc nt ne m : Nat} (h : Inv S sp nc nt ne m) : nc ≤ 14 := h.1.2.2.1
theorem Inv.n4 {S : St} {sp nc nt ne m : Nat} (h : Inv S sp nc nt ne m) : nt ≤ 4 := h.1.2.2.2.2.1
theorem Inv.nle {S : St} {sp nc nt ne m : Nat} (h : Inv S sp nc nt ne m) : ne ≤ nc := by rw [h.2.1]; exact cntE_le nc
theorem rem10 {m : Nat} (hm : m < 2 ^ 30) : nI m + 1 - (nI m + 1) / 10 * 10 = nI ((m + 1) % 10) := by
  rw [nI_1]
  exact pk_rem (a := m + 1) (d := 10) (by omega) (by omega) (by omega)
def runS (nc nt : Nat) : Nat → St → Nat → St × Nat
  | 0, S, _ => (S, 0)
  | f + 1, S, m => if S 7 ≤ S 12 then (S, 0) else ((runS nc nt f (minS S m nc nt) (m + 1)).1, (runS nc nt f (minS S m nc nt) (m + 1)).2 + 1)
def rnS (S : St) (m nc nt : Nat) : St × Nat := if nt = 0 then (S, 0) else runS nc nt 1000 S m
theorem inv_run {sp nc nt : Nat} : ∀ (f : Nat) (S : St) (ne m : Nat), Inv S sp nc nt ne m → ∃ ne', Inv (runS nc nt f S m).1 sp nc nt ne' (m + (runS nc nt f S m).2) ∧ (runS nc nt f S m).2 ≤ f := by
  intro f
  induction f with
  | zero => intro S ne m h; exact ⟨ne, h, Nat.le_refl _⟩
  | succ f ih =>
    intro S ne m h
    unfold runS
    split
    · exact ⟨ne, h, Nat.zero_le _⟩
    · obtain ⟨ne', h1⟩ := inv_min h
      obtain ⟨ne2, h2, h3⟩ := ih _ _ _ h1
      exact ⟨ne2, by rw [show m + ((runS nc nt f (minS S m nc nt) (m + 1)).2 + 1) = m + 1 + (runS nc nt f (minS S m nc nt) (m + 1)).2 by omega]; exact h2, by show _ + 1 ≤ f + 1; omega⟩

set_option maxRecDepth 100000 in
set_option maxHeartbeats 4000000 in
theorem k_passMinute {E : EE} {B : Nat} {S : St} {w : Wo} {sp nc nt ne m : Nat} (hI : Inv S sp nc nt ne m) (hm : m < 2 ^ 30) : Cd E mX1_passMinute (pl E B S w) [.ref B] (none) (pl E B (minS S m nc nt) w) := by
  refine Cd.of RX1 rfl (by decide) [some (.ref B), none] (Nat.le_of_ble_eq_true rfl) rfl (fun Γ h f hmn => ?_)
  have hA := inv_minA hI
  have hnt := hI.n4
  have k16 : V E Γ 0 0 16 [some (.ref B), none] [] (pl E B (minA S m nc) w) := by
    have f : Fn E Γ mX1_passMinute none (pl E B (upd (takN (goN (minA S m nc) nt nt) nc nt nt) 9 (nI (m + 1))) w) := f
    refine v_iconst (v := 0) h 16 17 dX1_passMinute_16 rfl (by decide) ?_
    refine v_istore_n (i := 1) h 17 18 dX1_passMinute_17 rfl rfl (by decide) (so1 rfl) ?_
    have loop18 : ∀ d j, j + d = nt → V E Γ 0 0 18 [some (.ref B), some (.int (nI j))] [] (pl E B (goN (minA S m nc) nt j) w) := by
      intro d
      induction d with
      | zero =>
        intro j hj
        obtain ⟨nej, hIj⟩ := inv_goN hA j (by omega)
        obtain rfl : nt = j := by omega
        refine v_iload_n (i := 1) h 18 19 dX1_passMinute_18 rfl rfl ld1 ?_
        refine v_aload_n (i := 0) h 19 20 dX1_passMinute_19 rfl rfl ld0 ?_
        refine v_get h 20 23 dX1_passMinute_20 rfl fo_X1_42 pl_ln rfl ?_
        refine v_icmp_ge h 23 26 37 dX1_passMinute_23 rfl (by decide) (fun h23 => ?_) (fun h23 => absurd (by rw [hIj.c8]; exact nI_le (Nat.le_refl _) (by omega)) h23)
        refine v_iconst (v := 0) h 37 38 dX1_passMinute_37 rfl (by decide) ?_
        refine v_istore_n (i := 1) h 38 39 dX1_passMinute_38 rfl rfl (by decide) (so1 rfl) ?_
        obtain ⟨neZ, hZ⟩ := inv_goN hA nt (Nat.le_refl _)
        generalize goN (minA S m nc) nt nt = Z at f hZ ⊢
        have loop39 : ∀ d j, j + d = nt → V E Γ 0 0 39 [some (.ref B), some (.int (nI j))] [] (pl E B (takN Z nc nt j) w) := by
          intro d
          induction d with
          | zero =>
            intro j hj
            have hIj := inv_takN hZ j (by omega)
            obtain rfl : nt = j := by omega
            refine v_iload_n (i := 1) h 39 40 dX1_passMinute_39 rfl rfl ld1 ?_
            refine v_aload_n (i := 0) h 40 41 dX1_passMinute_40 rfl rfl ld0 ?_
            refine v_get h 41 44 dX1_passMinute_41 rfl fo_X1_42 pl_ln rfl ?_
            refine v_icmp_ge h 44 47 58 dX1_passMinute_44 rfl (by decide) (fun h44 => ?_) (fun h44 => absurd (by rw [hIj.c8]; exact nI_le (Nat.le_refl _) (by omega)) h44)
            have e9 := hIj.c9
            refine v_aload_n (i := 0) h 58 59 dX1_passMinute_58 rfl rfl ld0 ?_
            refine v_dup h 59 60 dX1_passMinute_59 rfl rfl ?_
            refine v_get h 60 63 dX1_passMinute_60 rfl fo_X1_36 pl_ln rfl ?_
            rw [e9]
            refine v_iconst (v := 1) h 63 64 dX1_passMinute_63 rfl (by decide) ?_
            refine v_iadd h 64 65 dX1_passMinute_64 rfl ?_
            rw [nI_1]
            refine v_putLn h 65 68 9 dX1_passMinute_65 rfl fw_X1_36 rfl (by decide) ?_
            exact v_ret h 68 f dX1_passMinute_68 rfl (Nat.zero_le _) (Nat.zero_le _) rfl rfl
          | succ d ih =>
            intro j hj
            have hIj := inv_takN hZ j (by omega)
            have hj4 := hIj.n4
            refine v_iload_n (i := 1) h 39 40 dX1_passMinute_39 rfl rfl ld1 ?_
            refine v_aload_n (i := 0) h 40 41 dX1_passMinute_40 rfl rfl ld0 ?_
            refine v_get h 41 44 dX1_passMinute_41 rfl fo_X1_42 pl_ln rfl ?_
            refine v_icmp_ge h 44 47 58 dX1_passMinute_44 rfl (by decide) (fun h44 => absurd h44 (by rw [hIj.c8]; exact nI_ge (by omega) (by omega))) (fun h44 => ?_)
            refine v_aload_n (i := 0) h 47 48 dX1_passMinute_47 rfl rfl ld0 ?_
            refine v_iload_n (i := 1) h 48 49 dX1_passMinute_48 rfl rfl ld1 ?_
            refine v_callV0 h 49 52 dX1_passMinute_49 rfl cb_X1_takeChair cv_X1_takeChair pl_ln lk_X1_100 (rok (by decide) (by decide)) ⟨rfl, rfl⟩ ⟨Nat.zero_le _, Nat.zero_le _⟩ (k_takeChair hIj.c7 hIj.n14 hIj.c8 hIj.n4 (by omega) (hIj.InT _ (by omega)) hIj.InC) rfl rfl (Nat.le_of_ble_eq_true rfl) ?_
            refine v_iinc (i := 1) h 52 55 dX1_passMinute_52 rfl ld1 (by first | exact iinc1 _ | rfl) (by decide) (so1 rfl) ?_
            refine v_goto h 55 39 dX1_passMinute_55 (by decide) ?_
            exact ih (j + 1) (by omega)
        exact loop39 nt 0 (by omega)
      | succ d ih =>
        intro j hj
        obtain ⟨nej, hIj⟩ := inv_goN hA j (by omega)
        have hj4 := hIj.n4
        refine v_iload_n (i := 1) h 18 19 dX1_passMinute_18 rfl rfl ld1 ?_
        refine v_aload_n (i := 0) h 19 20 dX1_passMinute_19 rfl rfl ld0 ?_
        refine v_get h 20 23 dX1_passMinute_20 rfl fo_X1_42 pl_ln rfl ?_
        refine v_icmp_ge h 23 26 37 dX1_passMinute_23 rfl (by decide) (fun h23 => absurd h23 (by rw [hIj.c8]; exact nI_ge (by omega) (by omega))) (fun h23 => ?_)
        refine v_aload_n (i := 0) h 26 27 dX1_passMinute_26 rfl rfl ld0 ?_
        refine v_iload_n (i := 1) h 27 28 dX1_passMinute_27 rfl rfl ld1 ?_
        refine v_callV0 h 28 31 dX1_passMinute_28 rfl cb_X1_goOn cv_X1_goOn pl_ln lk_X1_96 (rok (by decide) (by decide)) ⟨rfl, rfl⟩ ⟨Nat.zero_le _, Nat.zero_le _⟩ (k_goOn hIj.c7 hIj.n14 hIj.c8 hIj.n4 (by omega) hIj.c12 (inv_goP hIj (by omega))) rfl rfl (Nat.le_of_ble_eq_true rfl) ?_
        refine v_iinc (i := 1) h 31 34 dX1_passMinute_31 rfl ld1 (by first | exact iinc1 _ | rfl) (by decide) (so1 rfl) ?_
        refine v_goto h 34 18 dX1_passMinute_34 (by decide) ?_
        exact ih (j + 1) (by omega)
    exact loop18 nt 0 (by omega)
  refine v_aload_n (i := 0) h 0 1 dX1_passMinute_0 rfl rfl ld0 ?_
  refine v_get h 1 4 dX1_passMinute_1 rfl fo_X1_36 pl_ln rfl ?_
  rw [hI.c9]
  refine v_iconst (v := 1) h 4 5 dX1_passMinute_4 rfl (by decide) ?_
  refine v_iadd h 5 6 dX1_passMinute_5 rfl ?_
  refine v_bipush (v := 10) h 6 8 dX1_passMinute_6 rfl (by decide) ?_
  refine v_irem h 8 9 dX1_passMinute_8 rfl (by decide) ?_
  rw [rem10 hm]
  refine v_if_ne h 9 12 16 dX1_passMinute_9 rfl (by decide) (fun h9 => ?_) (fun h9 => ?_)
  · rw [minA, if_neg (fun q => h9 (by rw [q]; rfl))] at k16
    exact k16
  · refine v_aload_n (i := 0) h 12 13 dX1_passMinute_12 rfl rfl ld0 ?_
    refine v_callV0 h 13 16 dX1_passMinute_13 rfl cb_X1_growColder cv_X1_growColder pl_ln lk_X1_93 (rok (by decide) (by decide)) ⟨rfl, rfl⟩ ⟨Nat.zero_le _, Nat.zero_le _⟩ (k_growColder hI.c7 hI.n14) rfl rfl (Nat.le_of_ble_eq_true rfl) ?_
    rw [minA, if_pos (nI_inj (b := 0) (by omega) (by omega) h9)] at k16
    exact k16

set_option maxRecDepth 100000 in
set_option maxHeartbeats 4000000 in
theorem k_runOut {E : EE} {B : Nat} {S : St} {w : Wo} {sp nc nt ne m : Nat} (hI : Inv S sp nc nt ne m) (hm : m < 2 ^ 30 - 5000) : Cd E mX1_runOut (pl E B S w) [.ref B] (some (.int (if (rnS S m nc nt).1 7 ≤ (rnS S m nc nt).1 12 then nI (rnS S m nc nt).2 else -1))) (pl E B (rnS S m nc nt).1 w) := by
  refine Cd.of RX1 rfl (by decide) [some (.ref B), none, none] (Nat.le_of_ble_eq_true rfl) rfl (fun Γ h f hmn => ?_)
  have hnt := hI.n4
  have hfin : ∀ ne' m', Inv (rnS S m nc nt).1 sp nc nt ne' m' → ∀ i2, V E Γ 0 0 42 [some (.ref B), some (.int (nI (rnS S m nc nt).2)), i2] [] (pl E B (rnS S m nc nt).1 w) := by
    intro ne' m' hF i2
    generalize rnS S m nc nt = Z at f hF ⊢
    refine v_aload_n (i := 0) h 42 43 dX1_runOut_42 rfl rfl ld0 ?_
    refine v_get h 43 46 dX1_runOut_43 rfl fo_X1_45 pl_ln rfl ?_
    refine v_aload_n (i := 0) h 46 47 dX1_runOut_46 rfl rfl ld0 ?_
    refine v_get h 47 50 dX1_runOut_47 rfl fo_X1_39 pl_ln rfl ?_
    refine v_icmp_ge h 50 53 57 dX1_runOut_50 rfl (by decide) (fun h50 => ?_) (fun h50 => ?_)
    · refine v_iload_n (i := 1) h 57 58 dX1_runOut_57 rfl rfl ld1 ?_
      refine v_iret h 58 f dX1_runOut_58 rfl (Nat.zero_le _) (Nat.zero_le _) ?_ ?_
      · rw [if_pos h50]
      · rfl
    · refine v_iconst (v := (-1)) h 53 54 dX1_runOut_53 rfl (by decide) ?_
      refine v_goto h 54 58 dX1_runOut_54 (by decide) ?_
      refine v_iret h 58 f dX1_runOut_58 rfl (Nat.zero_le _) (Nat.zero_le _) ?_ ?_
      · rw [if_neg h50]
      · rfl
  refine v_iconst (v := 0) h 0 1 dX1_runOut_0 rfl (by decide) ?_
  refine v_istore_n (i := 1) h 1 2 dX1_runOut_1 rfl rfl (by decide) (so1 rfl) ?_
  refine v_aload_n (i := 0) h 2 3 dX1_runOut_2 rfl rfl ld0 ?_
  refine v_get h 3 6 dX1_runOut_3 rfl fo_X1_42 pl_ln rfl ?_
  refine v_if_le h 6 9 42 dX1_runOut_6 rfl (by decide) (fun h6 => ?_) (fun h6 => ?_)
  · have hnt0 : nt = 0 := by
      rcases Nat.eq_zero_or_pos nt with q | q
      · exact q
      · exact absurd (by rw [hI.c8] at h6; exact h6) (nI_nle q (by omega))
    have q := hfin ne m (by rw [rnS, if_pos hnt0]; exact hI) none
    rw [rnS, if_pos hnt0] at q
    exact q
  · refine v_iconst (v := 0) h 9 10 dX1_runOut_9 rfl (by decide) ?_
    refine v_istore_n (i := 2) h 10 11 dX1_runOut_10 rfl rfl (by decide) (so2 rfl) ?_
    have loop : ∀ (d : Nat) (T : St) (ne' m' j : Nat), j + d = 1000 → m' < 2 ^ 30 - 5000 + j → Inv T sp nc nt ne' m' → (runS nc nt d T m').1 = (rnS S m nc nt).1 → j + (runS nc nt d T m').2 = (rnS S m nc nt).2 → V E Γ 0 0 11 [some (.ref B), some (.int (nI j)), some (.int (nI j))] [] (pl E B T w) := by
      intro d
      induction d with
      | zero =>
        intro T ne' m' j hj hm' hT r1 r2
        rw [show (runS nc nt 0 T m').1 = T from rfl] at r1
        rw [show (runS nc nt 0 T m').2 = 0 from rfl] at r2
        refine v_iload_n (i := 2) h 11 12 dX1_runOut_11 rfl rfl ld2 ?_
        refine v_sipush (v := 1000) h 12 15 dX1_runOut_12 rfl (by decide) ?_
        refine v_icmp_ge h 15 18 42 dX1_runOut_15 rfl (by decide) (fun h15 => ?_) (fun h15 => absurd (by rw [show j = 1000 by omega]; decide) h15)
        have q := hfin ne' m' (by rw [← r1]; exact hT) (some (.int (nI j)))
        rw [← r1, ← r2] at q
        exact q
      | succ d ih =>
        intro T ne' m' j hj hm' hT r1 r2
        have hTn := hT.nle
        have hT14 := hT.n14
        unfold runS at r1 r2
        refine v_iload_n (i := 2) h 11 12 dX1_runOut_11 rfl rfl ld2 ?_
        refine v_sipush (v := 1000) h 12 15 dX1_runOut_12 rfl (by decide) ?_
        refine v_icmp_ge h 15 18 42 dX1_runOut_15 rfl (by decide) (fun h15 => absurd h15 (nI_ge (a := j) (b := 1000) (by omega) (by decide))) (fun h15 => ?_)
        refine v_aload_n (i := 0) h 18 19 dX1_runOut_18 rfl rfl ld0 ?_
        refine v_get h 19 22 dX1_runOut_19 rfl fo_X1_45 pl_ln rfl ?_
        refine v_aload_n (i := 0) h 22 23 dX1_runOut_22 rfl rfl ld0 ?_
        refine v_get h 23 26 dX1_runOut_23 rfl fo_X1_39 pl_ln rfl ?_
        refine v_icmp_ge h 26 29 42 dX1_runOut_26 rfl (by decide) (fun h26 => ?_) (fun h26 => ?_)
        · rw [if_pos h26] at r1 r2
          have q := hfin ne' m' (by rw [← r1]; exact hT) (some (.int (nI j)))
          rw [← r1, ← r2] at q
          exact q
        · refine v_aload_n (i := 0) h 29 30 dX1_runOut_29 rfl rfl ld0 ?_
          refine v_callV0 h 30 33 dX1_runOut_30 rfl cb_X1_passMinute cv_X1_passMinute pl_ln lk_X1_90 (rok (by decide) (by decide)) ⟨rfl, rfl⟩ ⟨Nat.zero_le _, Nat.zero_le _⟩ (k_passMinute hT (by omega)) rfl rfl (Nat.le_of_ble_eq_true rfl) ?_
          refine v_iinc (i := 1) h 33 36 dX1_runOut_33 rfl ld1 (by first | exact iinc1 _ | rfl) (by decide) (so1 rfl) ?_
          refine v_iinc (i := 2) h 36 39 dX1_runOut_36 rfl ld2 (by first | exact iinc1 _ | rfl) (by decide) (so2 rfl) ?_
          refine v_goto h 39 11 dX1_runOut_39 (by decide) ?_
          rw [if_neg h26] at r1 r2
          obtain ⟨ne2, hT2⟩ := inv_min hT
          exact ih _ ne2 (m' + 1) (j + 1) (by omega) (by omega) hT2 r1 (by omega)
    have hnt0 : ¬ nt = 0 := fun q => h6 (by rw [hI.c8, q]; decide)
    exact loop 1000 S ne m 0 (by omega) (by omega) hI (by rw [rnS, if_neg hnt0]) (by rw [rnS, if_neg hnt0]; omega)
