/-! THE CONSTRUCTORS: the drill and the reference -/
def gW (C : Nat → va_E) (B o : Nat) (wb : Nat → Option va_E) : Wo := (B + o, fun a => if B ≤ a ∧ a < B + o then some (C (a - B)) else wb a)
section GW
variable {E : EE} {C C' : Nat → va_E} {B o : Nat} {wb : Nat → Option va_E}
theorem gW_at {x : Nat} (h : x < o) : (gW C B o wb).2 (B + x) = some (C x) := by
  show (if B ≤ B + x ∧ B + x < B + o then some (C (B + x - B)) else wb (B + x)) = _
  rw [if_pos ⟨by omega, by omega⟩, Nat.add_sub_cancel_left]
theorem gW_new {e : va_E} (h : C o = e) : wnew (gW C B o wb) e = gW C B (o + 1) wb := by
  refine Prod.ext rfl (funext fun a => ?_)
  show (if a = B + o then some e else if B ≤ a ∧ a < B + o then some (C (a - B)) else wb a) = if B ≤ a ∧ a < B + (o + 1) then some (C (a - B)) else wb a
  by_cases q : a = B + o
  · subst q
    rw [if_pos rfl, if_pos ⟨by omega, by omega⟩, Nat.add_sub_cancel_left, h]
  · rw [if_neg q]
    by_cases q2 : B ≤ a ∧ a < B + o
    · rw [if_pos q2, if_pos ⟨q2.1, by omega⟩]
    · rw [if_neg q2, if_neg (by omega)]
theorem gW_up {x : Nat} {e : va_E} (hx : x < o) (h : C' x = e) (ho : ∀ y, y < o → y ≠ x → C' y = C y) : wup (gW C B o wb) (B + x) e = gW C' B o wb := by
  refine Prod.ext rfl (funext fun a => ?_)
  show (if a = B + x then some e else if B ≤ a ∧ a < B + o then some (C (a - B)) else wb a) = if B ≤ a ∧ a < B + o then some (C' (a - B)) else wb a
  by_cases q : a = B + x
  · subst q
    rw [if_pos rfl, if_pos ⟨by omega, by omega⟩, Nat.add_sub_cancel_left, h]
  · rw [if_neg q]
    by_cases q2 : B ≤ a ∧ a < B + o
    · rw [if_pos q2, if_pos q2, ho (a - B) (by omega) (by omega)]
    · rw [if_neg q2, if_neg q2]
theorem gW_1 {e : va_E} (he : e = .inr (1, fN (B + o) 0)) : wnew (gW C B o wb) e = wN E (B + o) 0 1 0 0 (gW C B o wb).2 := by
  subst he
  refine Prod.ext rfl (funext fun a => ?_)
  show (if a = B + o then some _ else (gW C B o wb).2 a) = if B + o ≤ a ∧ a < B + o + 1 then some (cN E (B + o) 0 0 0 (a - (B + o))) else (gW C B o wb).2 a
  by_cases q : a = B + o
  · subst q
    rw [if_pos rfl, if_pos ⟨by omega, by omega⟩, Nat.sub_self]
    rfl
  · rw [if_neg q, if_neg (by omega)]
theorem gW_ln {S : St} (h : ∀ y, y < 23 → C (o + y) = lnC E (B + o) S y) : pl E (B + o) S (B + o + 23, (gW C B o wb).2) = gW C B (o + 23) wb := by
  refine Prod.ext rfl (funext fun a => ?_)
  by_cases q : B + o ≤ a ∧ a < B + o + 23
  · obtain ⟨y, rfl⟩ : ∃ y, a = B + o + y := ⟨a - (B + o), by omega⟩
    rw [pl_at y (by omega), ← h y (by omega), show B + o + y = B + (o + y) by omega, gW_at (by omega)]
  · rw [pl_out (by omega)]
    show (if B ≤ a ∧ a < B + o then some (C (a - B)) else wb a) = if B ≤ a ∧ a < B + (o + 23) then some (C (a - B)) else wb a
    by_cases q2 : B ≤ a ∧ a < B + o
    · rw [if_pos q2, if_pos ⟨q2.1, by omega⟩]
    · rw [if_neg q2, if_neg (by omega)]
theorem gW_p {S : St} {b : Nat} (hb : b + 23 ≤ o) (h : ∀ y, y < 23 → C' (b + y) = lnC E (B + b) S y) (ho : ∀ y, y < o → (y < b ∨ b + 23 ≤ y) → C' y = C y) : pl E (B + b) S (gW C B o wb) = gW C' B o wb := by
  refine Prod.ext rfl (funext fun a => ?_)
  by_cases q : B + b ≤ a ∧ a < B + b + 23
  · obtain ⟨y, rfl⟩ : ∃ y, a = B + b + y := ⟨a - (B + b), by omega⟩
    rw [pl_at y (by omega), ← h y (by omega), show B + b + y = B + (b + y) by omega, gW_at (by omega)]
  · rw [pl_out (by omega)]
    show (if B ≤ a ∧ a < B + o then some (C (a - B)) else wb a) = if B ≤ a ∧ a < B + o then some (C' (a - B)) else wb a
    by_cases q2 : B ≤ a ∧ a < B + o
    · rw [if_pos q2, if_pos q2, ho (a - B) (by omega) (by omega)]
    · rw [if_neg q2, if_neg q2]
end GW
/-! the reference -/
def hN (M c : Nat) : List Value := [if 0 < c then .ref (M + 1) else .null, if 1 < c then .ref (M + 2) else .null, if 2 < c then .ref (M + 3) else .null, if 3 < c then .ref (M + 4) else .null, .int 0, if 4 < c then .ref (M + 5) else .null, .int 0, .int 0, if 5 < c then .ref (M + 6) else .null, .int 0, .int 0, .long 0]
def mC0 (E : EE) (M c : Nat) (S : St) (x : Nat) : va_E :=
  if x = 0 then .inr (4, hN M c)
  else if x = 1 then .inl (gI E, 171, .inl S)
  else if x = 2 then .inl (gI E, 684, .inl (fun _ => 0))
  else if x = 3 then .inl (gI E, 171, .inl (fun _ => 0))
  else if x = 4 then .inl (gI E, 171, .inl (fun _ => 0))
  else if x = 5 then .inl (gI E, 100, .inl (fun _ => 0))
  else .inl (gI E, 14, .inl (fun _ => 0))
def s0 : Nat → St
  | 0 => upd (fun _ => 0) 0 3
  | k + 1 => upd (s0 k) (1 + k) 4
theorem mC_f {E : EE} {M c c' o : Nat} {S : St} {wb : Nat → Option va_E} (hx : 0 < o) : wup (gW (mC0 E M c S) M o wb) M (.inr (4, hN M c')) = gW (mC0 E M c' S) M o wb :=
  gW_up (x := 0) hx rfl (fun y _ hy => by unfold mC0; rw [if_neg hy, if_neg hy])
theorem mC_s {E : EE} {M c o : Nat} {S S' : St} {wb : Nat → Option va_E} (hx : 1 < o) : wup (gW (mC0 E M c S) M o wb) (M + 1) (.inl (gI E, 171, .inl S')) = gW (mC0 E M c S') M o wb :=
  gW_up (x := 1) hx rfl (fun y _ hy => by
    unfold mC0
    by_cases a : y = 0
    · rw [if_pos a, if_pos a]
    · rw [if_neg a, if_neg a, if_neg hy, if_neg hy])
theorem s0_gd {n : Nat} (hn : n ≤ 6) : gd 171 (s0 n) = s0 n := by
  have h0 : ∀ n, n ≤ 6 → ∀ i, 171 ≤ i → s0 n i = 0 := by
    intro n
    induction n with
    | zero => intro _ i hi; exact upd_ne _ _ (by omega)
    | succ n ih => intro hn i hi; exact (upd_ne _ _ (by omega)).trans (ih (by omega) i hi)
  funext k
  show (if k < 171 then s0 n k else 0) = s0 n k
  by_cases q : k < 171
  · rw [if_pos q]
  · rw [if_neg q, h0 n hn k (by omega)]
theorem gd_z {n : Nat} : gd n (fun _ => 0) = fun _ => 0 := by
  funext k
  show (if k < n then (0 : Int32) else 0) = 0
  split <;> rfl
theorem mC_ml {E : EE} {M : Nat} {wb : Nat → Option va_E} : gW (mC0 E M 6 (s0 6)) M 7 wb = ml E M (s0 6) (fun _ _ => 0) (fun _ => 0) (fun _ => 0) (fun _ => 0) (fun _ => 0) (fun _ => 0) 0 (M + 7, wb) := by
  refine Prod.ext rfl (funext fun a => ?_)
  show (if M ≤ a ∧ a < M + 7 then some (mC0 E M 6 (s0 6) (a - M)) else wb a) = if M ≤ a ∧ a < M + 7 then some _ else wb a
  by_cases q : M ≤ a ∧ a < M + 7
  · rw [if_pos q, if_pos q]
    congr 1
    generalize a - M = x
    unfold mC0 mlC
    rw [s0_gd (by omega), gd_z, gd_z, gd_z, show psF (fun _ _ => 0) = fun _ => 0 from rfl, gd_z]
    rfl
  · rw [if_neg q, if_neg q]
set_option maxRecDepth 100000 in
set_option maxHeartbeats 4000000 in
theorem k_X4init {E : EE} {M : Nat} {wb : Nat → Option va_E} : Cc E mX4_init (gW (mC0 E M 0 (fun _ => 0)) M 1 wb) [.ref M] (ml E M (s0 6) (fun _ _ => 0) (fun _ => 0) (fun _ => 0) (fun _ => 0) (fun _ => 0) (fun _ => 0) 0 (M + 7, wb)) := by
  refine Cc.of RX4 rfl (by decide) [some (.ref M), none] (Nat.le_of_ble_eq_true rfl) rfl (fun Γ h hC f hmn => ?_)
  refine v_aload_n (i := 0) h 0 1 dX4_init_0 rfl rfl ld0 ?_
  refine v_obj h 1 4 dX4_init_1 rfl ol_X4 oi_o oc_o ⟨by decide, by decide⟩ (Nat.le_of_ble_eq_true rfl) ?_
  refine v_aload_n (i := 0) h 4 5 dX4_init_4 rfl rfl ld0 ?_
  refine v_sipush (v := nI 171) h 5 8 dX4_init_5 rfl (by decide) ?_
  refine v_newI (N := 171) h 8 10 dX4_init_8 rfl (nI_pos (by omega)) (nI_clamp (by omega)) (by omega) aI ⟨by decide, by decide⟩ ?_
  refine V.world (w' := gW (mC0 E M 0 (fun _ => 0)) M (1 + 1) wb) (gW_new rfl) ?_
  refine v_putF h rfl hmn 10 13 dX4_init_10 rfl ff_X4_7 (gW_at (x := 0) (by omega)) rfl rfl (by show _ < 12; omega) ?_
  refine V.world (w' := gW (mC0 E M 1 (fun _ => 0)) M 2 wb) (mC_f (c' := 1) (by omega)) ?_
  refine v_aload_n (i := 0) h 13 14 dX4_init_13 rfl rfl ld0 ?_
  refine v_sipush (v := nI 684) h 14 17 dX4_init_14 rfl (by decide) ?_
  refine v_newI (N := 684) h 17 19 dX4_init_17 rfl (nI_pos (by omega)) (nI_clamp (by omega)) (by omega) aI ⟨by decide, by decide⟩ ?_
  refine V.world (w' := gW (mC0 E M 1 (fun _ => 0)) M (2 + 1) wb) (gW_new rfl) ?_
  refine v_putF h rfl hmn 19 22 dX4_init_19 rfl ff_X4_13 (gW_at (x := 0) (by omega)) rfl rfl (by show _ < 12; omega) ?_
  refine V.world (w' := gW (mC0 E M 2 (fun _ => 0)) M 3 wb) (mC_f (c' := 2) (by omega)) ?_
  refine v_aload_n (i := 0) h 22 23 dX4_init_22 rfl rfl ld0 ?_
  refine v_sipush (v := nI 171) h 23 26 dX4_init_23 rfl (by decide) ?_
  refine v_newI (N := 171) h 26 28 dX4_init_26 rfl (nI_pos (by omega)) (nI_clamp (by omega)) (by omega) aI ⟨by decide, by decide⟩ ?_
  refine V.world (w' := gW (mC0 E M 2 (fun _ => 0)) M (3 + 1) wb) (gW_new rfl) ?_
  refine v_putF h rfl hmn 28 31 dX4_init_28 rfl ff_X4_16 (gW_at (x := 0) (by omega)) rfl rfl (by show _ < 12; omega) ?_
  refine V.world (w' := gW (mC0 E M 3 (fun _ => 0)) M 4 wb) (mC_f (c' := 3) (by omega)) ?_
  refine v_aload_n (i := 0) h 31 32 dX4_init_31 rfl rfl ld0 ?_
  refine v_sipush (v := nI 171) h 32 35 dX4_init_32 rfl (by decide) ?_
  refine v_newI (N := 171) h 35 37 dX4_init_35 rfl (nI_pos (by omega)) (nI_clamp (by omega)) (by omega) aI ⟨by decide, by decide⟩ ?_
  refine V.world (w' := gW (mC0 E M 3 (fun _ => 0)) M (4 + 1) wb) (gW_new rfl) ?_
  refine v_putF h rfl hmn 37 40 dX4_init_37 rfl ff_X4_19 (gW_at (x := 0) (by omega)) rfl rfl (by show _ < 12; omega) ?_
  refine V.world (w' := gW (mC0 E M 4 (fun _ => 0)) M 5 wb) (mC_f (c' := 4) (by omega)) ?_
  refine v_aload_n (i := 0) h 40 41 dX4_init_40 rfl rfl ld0 ?_
  refine v_bipush (v := nI 100) h 41 43 dX4_init_41 rfl (by decide) ?_
  refine v_newI (N := 100) h 43 45 dX4_init_43 rfl (nI_pos (by omega)) (nI_clamp (by omega)) (by omega) aI ⟨by decide, by decide⟩ ?_
  refine V.world (w' := gW (mC0 E M 4 (fun _ => 0)) M (5 + 1) wb) (gW_new rfl) ?_
  refine v_putF h rfl hmn 45 48 dX4_init_45 rfl ff_X4_22 (gW_at (x := 0) (by omega)) rfl rfl (by show _ < 12; omega) ?_
  refine V.world (w' := gW (mC0 E M 5 (fun _ => 0)) M 6 wb) (mC_f (c' := 5) (by omega)) ?_
  refine v_aload_n (i := 0) h 48 49 dX4_init_48 rfl rfl ld0 ?_
  refine v_bipush (v := nI 14) h 49 51 dX4_init_49 rfl (by decide) ?_
  refine v_newI (N := 14) h 51 53 dX4_init_51 rfl (nI_pos (by omega)) (nI_clamp (by omega)) (by omega) aI ⟨by decide, by decide⟩ ?_
  refine V.world (w' := gW (mC0 E M 5 (fun _ => 0)) M (6 + 1) wb) (gW_new rfl) ?_
  refine v_putF h rfl hmn 53 56 dX4_init_53 rfl ff_X4_25 (gW_at (x := 0) (by omega)) rfl rfl (by show _ < 12; omega) ?_
  refine V.world (w' := gW (mC0 E M 6 (fun _ => 0)) M 7 wb) (mC_f (c' := 6) (by omega)) ?_
  refine v_aload_n (i := 0) h 56 57 dX4_init_56 rfl rfl ld0 ?_
  refine v_get h 57 60 dX4_init_57 rfl fo_X4_7 (gW_at (x := 0) (by omega)) rfl ?_
  refine v_iconst (v := nI 0) h 60 61 dX4_init_60 rfl (by decide) ?_
  refine v_iconst (v := 3) h 61 62 dX4_init_61 rfl (by decide) ?_
  refine v_iast (N := 171) (f := fun _ => 0) h 62 63 dX4_init_62 rfl (gW_at (x := 1) (by omega)) (vp_in_nI (n := 0) (by omega) (by decide)) ?_
  rw [nI_clamp (by omega)]
  refine V.world (w' := gW (mC0 E M 6 (s0 0)) M 7 wb) (mC_s (S' := s0 0) (by omega)) ?_
  refine v_iconst (v := 0) h 63 64 dX4_init_63 rfl (by decide) ?_
  refine v_istore_n (i := 1) h 64 65 dX4_init_64 rfl rfl (by decide) (so1 rfl) ?_
  have loop65 : ∀ dd j, j + dd = 6 → V E Γ 6 1311 65 [some (.ref M), some (.int (nI j))] [] (gW (mC0 E M 6 (s0 j)) M 7 wb) := by
    intro dd
    induction dd with
    | zero =>
      intro j hj
      obtain rfl : j = 6 := by omega
      refine v_iload_n (i := 1) h 65 66 dX4_init_65 rfl rfl ld1 ?_
      refine v_bipush (v := nI 6) h 66 68 dX4_init_66 rfl (by decide) ?_
      refine v_icmp_ge h 68 71 86 dX4_init_68 rfl (by decide) (fun hh => ?_) (fun hh => absurd (nI_le (Nat.le_refl _) (by omega)) hh)
      exact v_ret h 86 f dX4_init_86 rfl (by decide) (by decide) rfl mC_ml
    | succ dd ih =>
      intro j hj
      refine v_iload_n (i := 1) h 65 66 dX4_init_65 rfl rfl ld1 ?_
      refine v_bipush (v := nI 6) h 66 68 dX4_init_66 rfl (by decide) ?_
      refine v_icmp_ge h 68 71 86 dX4_init_68 rfl (by decide) (fun hh => absurd hh (nI_ge (by omega) (by omega))) (fun hh => ?_)
      refine v_aload_n (i := 0) h 71 72 dX4_init_71 rfl rfl ld0 ?_
      refine v_get h 72 75 dX4_init_72 rfl fo_X4_7 (gW_at (x := 0) (by omega)) rfl ?_
      refine v_iconst (v := nI 1) h 75 76 dX4_init_75 rfl (by decide) ?_
      refine v_iload_n (i := 1) h 76 77 dX4_init_76 rfl rfl ld1 ?_
      refine v_iadd h 77 78 dX4_init_77 rfl ?_
      rw [nI_add]
      refine v_iconst (v := 4) h 78 79 dX4_init_78 rfl (by decide) ?_
      refine v_iast (N := 171) (f := s0 j) h 79 80 dX4_init_79 rfl (gW_at (x := 1) (by omega)) (vp_in_nI (n := 1 + j) (by omega) (by decide)) ?_
      rw [nI_clamp (by omega)]
      refine V.world (w' := gW (mC0 E M 6 (s0 (j + 1))) M 7 wb) (mC_s (S' := s0 (j + 1)) (by omega)) ?_
      refine v_iinc (i := 1) h 80 83 dX4_init_80 rfl ld1 (by first | exact iinc1 _ | rfl) (by decide) (so1 rfl) ?_
      refine v_goto h 83 65 dX4_init_83 (by decide) ?_
      exact ih (j + 1) (by omega)
  exact V.weakT (loop65 6 0 (by omega)) (And.intro rfl (And.intro rfl trivial))
