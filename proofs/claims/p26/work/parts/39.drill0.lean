/-! THE CONSTRUCTORS: the drill -/
def gN (D c : Nat) : List Value := [if 0 < c then .ref (D + 1) else .null, if 1 < c then .ref (D + 24) else .null, if 2 < c then .ref (D + 47) else .null, .int 0, .int 0, if 3 < c then .ref (D + 140) else .null, .int 0]
def rowL (D j k : Nat) : Option Nat := if k < j then some (D + 48 + 23 * k) else none
def dC0 (E : EE) (D c : Nat) (S : St) (j x : Nat) : va_E :=
  if x = 0 then .inr (3, gN D c)
  else if x < 24 then lnC E (D + 1) S (x - 1)
  else if x < 47 then lnC E (D + 24) (fun _ => 0) (x - 24)
  else if x = 47 then .inl (gLn E, 4, .inr (.inr (.inr (.inr (rowL D j)))))
  else if x < 140 then lnC E (D + 48 + 23 * ((x - 48) / 23)) (fun _ => 0) ((x - 48) % 23)
  else .inl (gI E, 100, .inl (fun _ => 0))
section DC
variable {E : EE} {D c c' o j : Nat} {S : St} {wb : Nat → Option va_E}
theorem dC_f (hx : 0 < o) : wup (gW (dC0 E D c S j) D o wb) D (.inr (3, gN D c')) = gW (dC0 E D c' S j) D o wb :=
  gW_up (x := 0) hx rfl (fun y _ hy => by unfold dC0; rw [if_neg hy, if_neg hy])
theorem dC_r {j' : Nat} (hx : 47 < o) : wup (gW (dC0 E D c S j) D o wb) (D + 47) (.inl (gLn E, 4, .inr (.inr (.inr (.inr (rowL D j')))))) = gW (dC0 E D c S j') D o wb :=
  gW_up (x := 47) hx rfl (fun y _ hy => by
    unfold dC0
    by_cases a : y = 0
    · rw [if_pos a, if_pos a]
    · rw [if_neg a, if_neg a]
      by_cases b : y < 24
      · rw [if_pos b, if_pos b]
      · rw [if_neg b, if_neg b]
        by_cases d : y < 47
        · rw [if_pos d, if_pos d]
        · rw [if_neg d, if_neg d, if_neg hy, if_neg hy])
theorem dC_1 {y : Nat} (h : y < 23) : dC0 E D c S j (1 + y) = lnC E (D + 1) S y := by
  unfold dC0
  rw [if_neg (by omega), if_pos (by omega), Nat.add_sub_cancel_left]
theorem dC_2 {y : Nat} (h : y < 23) : dC0 E D c S j (24 + y) = lnC E (D + 24) (fun _ => 0) y := by
  unfold dC0
  rw [if_neg (by omega), if_neg (by omega), if_pos (by omega), Nat.add_sub_cancel_left]
theorem dC_k {y k : Nat} (h : y < 23) (hk : k < 4) : dC0 E D c S j (48 + 23 * k + y) = lnC E (D + 48 + 23 * k) (fun _ => 0) y := by
  unfold dC0
  rw [if_neg (by omega), if_neg (by omega), if_neg (by omega), if_neg (by omega), if_pos (by omega), show (48 + 23 * k + y - 48) / 23 = k by omega, show (48 + 23 * k + y - 48) % 23 = y by omega]
theorem dC_p {S' : St} (ho : 24 ≤ o) : pl E (D + 1) S' (gW (dC0 E D c S j) D o wb) = gW (dC0 E D c S' j) D o wb :=
  gW_p ho (fun y hy => dC_1 hy) (fun y _ hy => by
    unfold dC0
    by_cases a : y = 0
    · rw [if_pos a, if_pos a]
    · rw [if_neg a, if_neg a, if_neg (show ¬ y < 24 by omega), if_neg (show ¬ y < 24 by omega)])
theorem rowL_up : va_up (rowL D j) j (some (D + 48 + 23 * j)) = rowL D (j + 1) := by
  funext k
  show (if k = j then some (D + 48 + 23 * j) else if k < j then some (D + 48 + 23 * k) else none) = if k < j + 1 then some (D + 48 + 23 * k) else none
  by_cases q : k = j
  · subst q
    rw [if_pos rfl, if_pos (by omega)]
  · rw [if_neg q]
    by_cases q2 : k < j
    · rw [if_pos q2, if_pos (by omega)]
    · rw [if_neg q2, if_neg (by omega)]
theorem rowL_0 : rowL D 0 = fun _ => none := by
  funext k
  unfold rowL
  rw [if_neg (by omega)]
theorem dC_dl (w : Nat → Option va_E) : ∀ H, HP E (gW (dC0 E D 4 S 4) D 141 w) H → HP E (dl E D S (fun _ => 0) (fun _ _ => 0) 0 0 0 (fun _ => 0) (D + 141, w)) H := by
  refine HP.conv rfl (fun a e' he => ?_)
  by_cases q : D ≤ a ∧ a < D + 141
  · obtain ⟨x, rfl⟩ : ∃ x, a = D + x := ⟨a - D, by omega⟩
    rw [dl_at x (by omega)] at he
    cases he
    refine ⟨_, gW_at (by omega), ?_⟩
    unfold dC0 dlC
    by_cases x0 : x = 0
    · rw [if_pos x0, if_pos x0]; exact fun H h => h
    · rw [if_neg x0, if_neg x0]
      by_cases x1 : x < 24
      · rw [if_pos x1, if_pos x1]; exact fun H h => h
      · rw [if_neg x1, if_neg x1]
        by_cases x2 : x < 47
        · rw [if_pos x2, if_pos x2]; exact fun H h => h
        · rw [if_neg x2, if_neg x2]
          by_cases x3 : x = 47
          · rw [if_pos x3, if_pos x3]; exact row_same (fun k hk => if_pos hk)
          · rw [if_neg x3, if_neg x3]; exact fun H h => h
  · rw [dl_out (by omega)] at he
    refine ⟨e', ?_, fun H h => h⟩
    show (if D ≤ a ∧ a < D + 141 then _ else w a) = _
    rw [if_neg q]
    exact he
end DC
theorem fN_d {B : Nat} : ∀ j, j < 11 → defaultValue (tyX1 j) = vp_V (fN B 0) j := by
  intro j hj
  rcases (show j = 0 ∨ j = 1 ∨ j = 2 ∨ j = 3 ∨ j = 4 ∨ j = 5 ∨ j = 6 ∨ j = 7 ∨ j = 8 ∨ j = 9 ∨ j = 10 by omega) with rfl | rfl | rfl | rfl | rfl | rfl | rfl | rfl | rfl | rfl | rfl <;> rfl
theorem lk_X3_9i : Cond.methodLink RX3 9 (mY mX1_init) ∈ Tg := lk_X3_9
set_option maxRecDepth 100000 in
set_option maxHeartbeats 4000000 in
theorem k_X3init {E : EE} {D : Nat} {wb : Nat → Option va_E} : Cc E mX3_init (gW (dC0 E D 0 (fun _ => 0) 0) D 1 wb) [.ref D] (dl E D (rstS (fun _ => 0) 3) (fun _ => 0) (fun _ _ => 0) 0 0 0 (fun _ => 0) (D + 141, wb)) := by
  refine Cc.of RX3 rfl (by decide) [some (.ref D), none] (Nat.le_of_ble_eq_true rfl) rfl (fun Γ h hC f hmn => ?_)
  refine v_aload_n (i := 0) h 0 1 dX3_init_0 rfl rfl ld0 ?_
  refine v_obj h 1 4 dX3_init_1 rfl ol_X3 oi_o oc_o ⟨by decide, by decide⟩ (Nat.le_of_ble_eq_true rfl) ?_
  refine v_aload_n (i := 0) h 4 5 dX3_init_4 rfl rfl ld0 ?_
  refine v_new (ci := 1) (fs := fN (D + 1) 0) h 5 8 tyX1 tyX1_ok igX1 ck7 in_X1 ii_X1 rfl fN_d dX3_init_5 rfl ⟨by decide, by decide⟩ ?_
  refine V.world (w' := wN E (D + 1) 0 1 0 0 (gW (dC0 E D 0 (fun _ => 0) 0) D 1 wb).2) (gW_1 rfl) ?_
  refine v_dup h 8 9 dX3_init_8 rfl rfl ?_
  refine v_initC (M2 := mX1_init) h hC 9 12 dX3_init_9 rfl cb_X1_init rfl im_X1 ii_X1 lk_X3_9i (rok (by decide) (by decide)) ⟨by decide, by decide⟩ rfl (k_X1init (B := D + 1)) (Nat.le_of_ble_eq_true rfl) ?_
  refine V.world (w' := gW (dC0 E D 0 (fun _ => 0) 0) D 24 wb) (gW_ln (o := 1) (fun y hy => dC_1 hy)) ?_
  refine v_putF h rfl hmn 12 15 dX3_init_12 rfl ff_X3_10 (gW_at (x := 0) (by omega)) rfl rfl (by show _ < 7; omega) ?_
  refine V.world (w' := gW (dC0 E D 1 (fun _ => 0) 0) D 24 wb) (dC_f (c' := 1) (by omega)) ?_
  refine v_aload_n (i := 0) h 15 16 dX3_init_15 rfl rfl ld0 ?_
  refine v_get h 16 19 dX3_init_16 rfl fo_X3_10 (gW_at (x := 0) (by omega)) rfl ?_
  refine v_iconst (v := 3) h 19 20 dX3_init_19 rfl (by decide) ?_
  have kr : Cd E mX1_reset (gW (dC0 E D 1 (fun _ => 0) 0) D 24 wb) [.ref (D + 1), .int 3] none (gW (dC0 E D 1 (rstS (fun _ => 0) 3) 0) D 24 wb) := by
    have k := k_reset (E := E) (B := D + 1) (S := (fun _ => 0)) (w := gW (dC0 E D 1 (fun _ => 0) 0) D 24 wb) 3
    rw [dC_p (by omega), dC_p (by omega)] at k
    exact k
  have hln : (gW (dC0 E D 1 (fun _ => 0) 0) D 24 wb).2 (D + 1) = some (.inr (1, lnF (D + 1) (fun _ => 0))) := by
    rw [gW_at (x := 1) (by omega), show dC0 E D 1 (fun _ => 0) 0 1 = lnC E (D + 1) (fun _ => 0) 0 from dC_1 (y := 0) (by omega)]
    rfl
  refine v_callV0 h 20 23 dX3_init_20 rfl cb_X1_reset cv_X1_reset hln lk_X3_16 (rok (by decide) (by decide)) ⟨rfl, rfl⟩ ⟨by decide, by decide⟩ kr rfl rfl (Nat.le_of_ble_eq_true rfl) ?_
  refine v_aload_n (i := 0) h 23 24 dX3_init_23 rfl rfl ld0 ?_
  refine v_new (ci := 1) (fs := fN (D + 24) 0) h 24 27 tyX1 tyX1_ok igX1 ck7 in_X1 ii_X1 rfl fN_d dX3_init_24 rfl ⟨by decide, by decide⟩ ?_
  refine V.world (w' := wN E (D + 24) 0 1 0 0 (gW (dC0 E D 1 (rstS (fun _ => 0) 3) 0) D 24 wb).2) (gW_1 rfl) ?_
  refine v_dup h 27 28 dX3_init_27 rfl rfl ?_
  refine v_initC (M2 := mX1_init) h hC 28 31 dX3_init_28 rfl cb_X1_init rfl im_X1 ii_X1 lk_X3_9i (rok (by decide) (by decide)) ⟨by decide, by decide⟩ rfl (k_X1init (B := D + 24)) (Nat.le_of_ble_eq_true rfl) ?_
  refine V.world (w' := gW (dC0 E D 1 (rstS (fun _ => 0) 3) 0) D 47 wb) (gW_ln (o := 24) (fun y hy => dC_2 hy)) ?_
  refine v_putF h rfl hmn 31 34 dX3_init_31 rfl ff_X3_20 (gW_at (x := 0) (by omega)) rfl rfl (by show _ < 7; omega) ?_
  refine V.world (w' := gW (dC0 E D 2 (rstS (fun _ => 0) 3) 0) D 47 wb) (dC_f (c' := 2) (by omega)) ?_
  refine v_aload_n (i := 0) h 34 35 dX3_init_34 rfl rfl ld0 ?_
  refine v_iconst (v := nI 4) h 35 36 dX3_init_35 rfl (by decide) ?_
  refine v_anew (N := 4) (t0 := 4) (cB := (gLn E)) (C := RX1) h 36 39 (by rfl) dX3_init_36 rfl (nI_pos (by omega)) (nI_clamp (by omega)) (by omega) ck7 (by obtain ⟨p, e, R, s, m, args, below, meth, c, Q⟩ := Γ; exact hC.1.2.2) ⟨by decide, by decide⟩ ?_
  refine V.world (w' := gW (dC0 E D 2 (rstS (fun _ => 0) 3) 0) D (47 + 1) wb) (gW_new (by show _ = _; rw [← rowL_0 (D := D)]; rfl)) ?_
  refine v_putF h rfl hmn 39 42 dX3_init_39 rfl ff_X3_23 (gW_at (x := 0) (by omega)) rfl rfl (by show _ < 7; omega) ?_
  refine V.world (w' := gW (dC0 E D 3 (rstS (fun _ => 0) 3) 0) D 48 wb) (dC_f (c' := 3) (by omega)) ?_
  refine v_iconst (v := 0) h 42 43 dX3_init_42 rfl (by decide) ?_
  refine v_istore_n (i := 1) h 43 44 dX3_init_43 rfl rfl (by decide) (so1 rfl) ?_
  have loop44 : ∀ dd j, j + dd = 4 → V E Γ (47 + 23 * j) (390 + 193 * j) 44 [some (.ref D), some (.int (nI j))] [] (gW (dC0 E D 3 (rstS (fun _ => 0) 3) j) D (48 + 23 * j) wb) := by
    intro dd
    induction dd with
    | zero =>
      intro j hj
      obtain rfl : j = 4 := by omega
      refine v_iload_n (i := 1) h 44 45 dX3_init_44 rfl rfl ld1 ?_
      refine v_aload_n (i := 0) h 45 46 dX3_init_45 rfl rfl ld0 ?_
      refine v_get h 46 49 dX3_init_46 rfl fo_X3_23 (gW_at (x := 0) (by omega)) rfl ?_
      refine v_alen h 49 50 4 dX3_init_49 rfl (gW_at (x := 47) (by omega)) rfl (v := nI 4) rfl ?_
      refine v_icmp_ge h 50 53 72 dX3_init_50 rfl (by decide) (fun hh => ?_) (fun hh => absurd (nI_le (Nat.le_refl _) (by omega)) hh)
      refine v_aload_n (i := 0) h 72 73 dX3_init_72 rfl rfl ld0 ?_
      refine v_bipush (v := nI 100) h 73 75 dX3_init_73 rfl (by decide) ?_
      refine v_newI (N := 100) h 75 77 dX3_init_75 rfl (nI_pos (by omega)) (nI_clamp (by omega)) (by omega) aI ⟨by decide, by decide⟩ ?_
      refine V.world (w' := gW (dC0 E D 3 (rstS (fun _ => 0) 3) 4) D (140 + 1) wb) (gW_new (o := 140) rfl) ?_
      refine v_putF h rfl hmn 77 80 dX3_init_77 rfl ff_X3_27 (gW_at (x := 0) (by omega)) rfl rfl (by show _ < 7; omega) ?_
      refine V.world (w' := gW (dC0 E D 4 (rstS (fun _ => 0) 3) 4) D 141 wb) (dC_f (c' := 4) (by omega)) ?_
      refine V.conv (dC_dl wb) ?_
      exact v_ret h 80 f dX3_init_80 rfl (by decide) (by decide) rfl rfl
    | succ dd ih =>
      intro j hj
      refine v_iload_n (i := 1) h 44 45 dX3_init_44 rfl rfl ld1 ?_
      refine v_aload_n (i := 0) h 45 46 dX3_init_45 rfl rfl ld0 ?_
      refine v_get h 46 49 dX3_init_46 rfl fo_X3_23 (gW_at (x := 0) (by omega)) rfl ?_
      refine v_alen h 49 50 4 dX3_init_49 rfl (gW_at (x := 47) (by omega)) rfl (v := nI 4) rfl ?_
      refine v_icmp_ge h 50 53 72 dX3_init_50 rfl (by decide) (fun hh => absurd hh (nI_ge (by omega) (by omega))) (fun hh => ?_)
      refine v_aload_n (i := 0) h 53 54 dX3_init_53 rfl rfl ld0 ?_
      refine v_get h 54 57 dX3_init_54 rfl fo_X3_23 (gW_at (x := 0) (by omega)) rfl ?_
      refine v_iload_n (i := 1) h 57 58 dX3_init_57 rfl rfl ld1 ?_
      refine v_new (ci := 1) (fs := fN (D + (48 + 23 * j)) 0) h 58 61 tyX1 tyX1_ok igX1 ck7 in_X1 ii_X1 rfl fN_d dX3_init_58 rfl ⟨by show 47 + 23 * j + 1 ≤ 140; omega, by show 390 + 193 * j + 11 ≤ 1262; omega⟩ ?_
      refine V.world (w' := wN E (D + (48 + 23 * j)) 0 1 0 0 (gW (dC0 E D 3 (rstS (fun _ => 0) 3) j) D (48 + 23 * j) wb).2) (gW_1 rfl) ?_
      refine v_dup h 61 62 dX3_init_61 rfl rfl ?_
      refine v_initC (M2 := mX1_init) h hC 62 65 dX3_init_62 rfl cb_X1_init rfl im_X1 ii_X1 lk_X3_9i (rok (by decide) (by decide)) ⟨by show 47 + 23 * j + 1 + 22 ≤ 140; omega, by show 390 + 193 * j + 11 + 182 ≤ 1262; omega⟩ rfl (k_X1init (B := D + (48 + 23 * j))) (Nat.le_of_ble_eq_true rfl) ?_
      refine V.world (w' := gW (dC0 E D 3 (rstS (fun _ => 0) 3) j) D (48 + 23 * j + 23) wb) (gW_ln (o := 48 + 23 * j) (fun y hy => (dC_k hy (by omega)).trans (by rw [Nat.add_assoc]))) ?_
      refine v_aast (vs := lnF (D + (48 + 23 * j)) (fun _ => 0)) (N := 4) (f := rowL D j) (cA := gLn E) (t0 := 4) (ci := 1) h 65 66 dX3_init_65 rfl (gW_at (o := 48 + 23 * j + 23) (x := 47) (by omega)) rfl ((gW_at (C := dC0 E D 3 (rstS (fun _ => 0) 3) j) (o := 48 + 23 * j + 23) (x := 48 + 23 * j) (by omega)).trans (congrArg some ((dC_k (y := 0) (by omega) (by omega)).trans (by rw [Nat.add_assoc]; rfl)))) rfl (vp_in_nI (n := j) (by omega) (by decide)) ?_
      rw [nI_clamp (by omega)]
      refine V.world (w' := gW (dC0 E D 3 (rstS (fun _ => 0) 3) (j + 1)) D (48 + 23 * j + 23) wb) (by rw [show (gW (dC0 E D 3 (rstS (fun _ => 0) 3) j) D (48 + 23 * j) wb).1 = D + 48 + 23 * j from by show D + (48 + 23 * j) = _; omega, rowL_up]; exact dC_r (by omega)) ?_
      refine v_iinc (i := 1) h 66 69 dX3_init_66 rfl ld1 (by first | exact iinc1 _ | rfl) (by decide) (so1 rfl) ?_
      refine v_goto h 69 44 dX3_init_69 (by decide) ?_
      refine V.world (w' := gW (dC0 E D 3 (rstS (fun _ => 0) 3) (j + 1)) D (48 + 23 * (j + 1)) wb) (by rw [show 48 + 23 * (j + 1) = 48 + 23 * j + 23 by omega]) ?_
      exact V.widen (by show 47 + 23 * j + 1 + 22 ≤ 47 + 23 * (j + 1); omega) (by show 390 + 193 * j + 11 + 182 ≤ 390 + 193 * (j + 1); omega) (ih (j + 1) (by omega))
  exact V.weakT (V.widen (by decide) (by decide) (loop44 4 0 (by omega))) (And.intro rfl (And.intro rfl trivial))
