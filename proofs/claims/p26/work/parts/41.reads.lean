/-! THE LAW'S READS -/
def lowN (v : Int32) (n : Nat) : Nat := v.toBitVec.toNat % 2 ^ 31 % n
theorem v_andm {E : EE} {Γ : Cx} {M : MI} {own : String} {k n : Nat} {L : Lo} {st : List Value} {w : Wo} (h : OkB E Γ M own) (pc q : Nat) {x : Int32} (hd : decode (mC M) pc = .ok (.iand, 1)) (hq : pc + 1 = q) (kk : V E Γ k n q L (.int (nI (x.toBitVec.toNat % 2 ^ 31)) :: st) w) : V E Γ k n pc L (.int 2147483647 :: .int x :: st) w := v_iand h pc q hd hq (by rw [pk_and x 31 (by decide +kernel)]; exact kk)
set_option maxRecDepth 100000 in
set_option maxHeartbeats 4000000 in
theorem k_low {E : EE} {w : Wo} (v : Int32) {n : Nat} (h0 : 0 < n) (hn : n < 2 ^ 31) : Cd E mL_low (w) [.int v, .int (nI n)] (some (.int (nI (lowN v n)))) (w) := by
  refine Cd.of RL rfl (by decide) [some (.int v), some (.int (nI n))] (Nat.le_of_ble_eq_true rfl) rfl (fun Γ h f hmn => ?_)
  refine v_iload_n (i := 0) h 0 1 dL_low_0 rfl rfl ld0 ?_
  refine v_ldc h 1 3 dL_low_1 rfl kc_L_8 ?_
  refine v_andm h 3 4 dL_low_3 rfl ?_
  refine v_iload_n (i := 1) h 4 5 dL_low_4 rfl rfl ld1 ?_
  refine v_iremN h 5 6 dL_low_5 rfl (Nat.mod_lt _ (Nat.two_pow_pos 31)) h0 hn ?_
  exact v_iret h 6 f dL_low_6 rfl (Nat.zero_le _) (Nat.zero_le _) rfl rfl

theorem k_begins {E : EE} {B : Nat} {w : Wo} : Cd E mL_begins (lw E B (fun _ => 0) w) [.ref B] none (lw E B (rstS (fun _ => 0) 3) w) := by
  refine Cd.of RL rfl (by decide) [some (.ref B), none] (Nat.le_of_ble_eq_true rfl) rfl (fun Γ h f hmn => ?_)
  refine v_aload_n (i := 0) h 0 1 dL_begins_0 rfl rfl ld0 ?_
  refine v_iconst (v := nI 0) h 1 2 dL_begins_1 rfl (by decide) ?_
  refine v_iconst (v := 3) h 2 3 dL_begins_2 rfl (by decide) ?_
  refine v_stG h 3 4 0 dL_begins_3 rfl (by omega) ?_
  refine v_iconst (v := 1) h 4 5 dL_begins_4 rfl (by decide) ?_
  refine v_istore_n (i := 1) h 5 6 dL_begins_5 rfl rfl (by decide) (so1 rfl) ?_
  have loop6 : ∀ d j, j + d = 6 → V E Γ 0 0 6 [some (.ref B), some (.int (nI (j + 1)))] [] (lw E B (rstW (upd (fun _ => 0) 0 3) j) w) := by
    intro d
    induction d with
    | zero =>
      intro j hj
      obtain rfl : j = 6 := by omega
      refine v_iload_n (i := 1) h 6 7 dL_begins_6 rfl rfl ld1 ?_
      refine v_bipush (v := nI 7) h 7 9 dL_begins_7 rfl (by decide) ?_
      refine v_icmp_ge h 9 12 22 dL_begins_9 rfl (by decide) (fun h9 => ?_) (fun h9 => absurd (nI_le (Nat.le_refl _) (by omega)) h9)
      refine v_ret h 22 f dL_begins_22 rfl (Nat.zero_le _) (Nat.zero_le _) rfl ?_
      refine lw_same (fun i _ _ => ?_)
      show rstW _ 6 i = rstW _ 6 i
      unfold rst0
      simp only [rstW]
      by_cases h0 : i = 0
      · subst h0
        simp (disch := omega) only [upd_ne, upd_self]
      · simp only [upd]
        repeat' split
        all_goals first | rfl | omega
    | succ d ih =>
      intro j hj
      refine v_iload_n (i := 1) h 6 7 dL_begins_6 rfl rfl ld1 ?_
      refine v_bipush (v := nI 7) h 7 9 dL_begins_7 rfl (by decide) ?_
      refine v_icmp_ge h 9 12 22 dL_begins_9 rfl (by decide) (fun h9 => absurd h9 (nI_ge (by omega) (by omega))) (fun h9 => ?_)
      refine v_aload_n (i := 0) h 12 13 dL_begins_12 rfl rfl ld0 ?_
      refine v_iload_n (i := 1) h 13 14 dL_begins_13 rfl rfl ld1 ?_
      refine v_iconst (v := 4) h 14 15 dL_begins_14 rfl (by decide) ?_
      refine v_stG h 15 16 (j + 1) dL_begins_15 rfl (by omega) ?_
      refine v_iinc (i := 1) h 16 19 dL_begins_16 rfl ld1 (iinc1 _) (by decide) (so1 rfl) ?_
      refine v_goto h 19 6 dL_begins_19 (by decide) ?_
      have q := ih (j + 1) (by omega)
      rw [rstW, Nat.add_comm 1 j] at q
      exact q
  exact loop6 6 0 (by omega)
/-- the ways between, as the law sums them -/
def farP (S : St) (a b : Nat) : Nat → Int32
  | 0 => 0
  | k + 1 => farP S a b k + (if (a ≤ k ∧ k < b) ∨ (b ≤ k ∧ k < a) then S (1 + k) else 0)
theorem farP_s (S : St) (a b k : Nat) : farP S a b (k + 1) = farP S a b k + (if (a ≤ k ∧ k < b) ∨ (b ≤ k ∧ k < a) then S (1 + k) else 0) := rfl
theorem farP_is {S : St} {a b : Nat} : ∀ k, farP S a b k = waySum S (min a b) (min k (max a b) - min a b) := by
  intro k
  induction k with
  | zero => rw [show min 0 (max a b) - min a b = 0 by omega]; rfl
  | succ k ih =>
    rw [farP_s, ih]
    by_cases h : (a ≤ k ∧ k < b) ∨ (b ≤ k ∧ k < a)
    · rw [if_pos h, show min (k + 1) (max a b) - min a b = (min k (max a b) - min a b) + 1 by omega, waySum, show min a b + (min k (max a b) - min a b) = k by omega]
    · rw [if_neg h, Int32.add_zero, show min (k + 1) (max a b) - min a b = min k (max a b) - min a b by omega]
theorem farP_6 {S : St} {a b : Nat} (ha : a ≤ 6) (hb : b ≤ 6) : farP S a b 6 = wayV S (nI a) (nI b) := by
  unfold wayV
  rw [farP_is, nI_clamp (by omega), nI_clamp (by omega), show min 6 (max a b) = max a b by omega]
set_option maxRecDepth 100000 in
set_option maxHeartbeats 4000000 in
theorem k_far {E : EE} {B : Nat} {R : St} {w : Wo} {x y : Int32} (hx : InS x) (hy : InS y) : Cd E mL_far (lw E B R w) [.ref B, .int x, .int y] (some (.int (wayV R x y))) (lw E B R w) := by
  obtain ⟨a, ha, rfl⟩ := hx
  obtain ⟨b, hb, rfl⟩ := hy
  rw [← farP_6 (S := R) ha hb]
  refine Cd.of RL rfl (by decide) [some (.ref B), some (.int (nI a)), some (.int (nI b)), none, none, none] (Nat.le_of_ble_eq_true rfl) rfl (fun Γ h f hmn => ?_)
  refine v_iconst (v := 0) h 0 1 dL_far_0 rfl (by decide) ?_
  refine v_istore_n (i := 3) h 1 2 dL_far_1 rfl rfl (by decide) (so3 rfl) ?_
  refine v_iconst (v := 0) h 2 3 dL_far_2 rfl (by decide) ?_
  refine v_istore (i := 4) h 3 5 dL_far_3 rfl (by decide) (so4 rfl) ?_
  have loop5 : ∀ d j, j + d = 6 → V E Γ 0 0 5 [some (.ref B), some (.int (nI a)), some (.int (nI b)), some (.int (farP R a b j)), some (.int (nI j)), none] [] (lw E B R w) := by
    intro d
    induction d with
    | zero =>
      intro j hj
      obtain rfl : j = 6 := by omega
      refine v_iload (i := 4) h 5 7 dL_far_5 rfl ld4 ?_
      refine v_bipush (v := nI 6) h 7 9 dL_far_7 rfl (by decide) ?_
      refine v_icmp_ge h 9 12 67 dL_far_9 rfl (by decide) (fun h9 => ?_) (fun h9 => absurd (nI_le (a := 6) (b := 6) (by omega) (by omega)) h9)
      refine v_iload_n (i := 3) h 67 68 dL_far_67 rfl rfl ld3 ?_
      exact v_iret h 68 f dL_far_68 rfl (Nat.zero_le _) (Nat.zero_le _) rfl rfl
    | succ d ih =>
      intro j hj
      refine v_iload (i := 4) h 5 7 dL_far_5 rfl ld4 ?_
      refine v_bipush (v := nI 6) h 7 9 dL_far_7 rfl (by decide) ?_
      refine v_icmp_ge h 9 12 67 dL_far_9 rfl (by decide) (fun h9 => absurd h9 (nI_ge (a := j) (b := 6) (by omega) (by omega))) (fun h9 => ?_)
      refine v_iload (i := 4) h 12 14 dL_far_12 rfl ld4 ?_
      refine v_iload_n (i := 1) h 14 15 dL_far_14 rfl rfl ld1 ?_
      refine v_icmp_lt h 15 18 24 dL_far_15 rfl (by decide) (fun h15 => ?_) (fun h15 => ?_)
      · have n15 := (nI_ltI (a := j) (b := a) (by omega) (by omega)).mp h15
        refine v_iload (i := 4) h 24 26 dL_far_24 rfl ld4 ?_
        refine v_iload_n (i := 2) h 26 27 dL_far_26 rfl rfl ld2 ?_
        refine v_icmp_lt h 27 30 40 dL_far_27 rfl (by decide) (fun h27 => ?_) (fun h27 => ?_)
        · have n27 := (nI_ltI (a := j) (b := b) (by omega) (by omega)).mp h27
          refine v_iconst (v := 0) h 40 41 dL_far_40 rfl (by decide) ?_
          refine v_istore (i := 5) h 41 43 dL_far_41 rfl (by decide) (so5 rfl) ?_
          refine v_iload_n (i := 3) h 43 44 dL_far_43 rfl rfl ld3 ?_
          refine v_iload (i := 5) h 44 46 dL_far_44 rfl ld5 ?_
          refine v_if_eq h 46 49 58 dL_far_46 rfl (by decide) (fun h46 => ?_) (fun h46 => absurd (by decide) h46)
          refine v_iconst (v := 0) h 58 59 dL_far_58 rfl (by decide) ?_
          refine v_iadd h 59 60 dL_far_59 rfl ?_
          refine v_istore_n (i := 3) h 60 61 dL_far_60 rfl rfl (by decide) (so3 rfl) ?_
          refine v_iinc (i := 4) h 61 64 dL_far_61 rfl ld4 (by first | exact iinc1 _ | rfl) (by decide) (so4 rfl) ?_
          refine v_goto h 64 5 dL_far_64 (by decide) ?_
          have q := ih (j + 1) (by omega)
          rw [farP_s, if_neg (by omega)] at q
          exact V.weakT q (And.intro rfl (And.intro rfl (And.intro rfl (And.intro rfl (And.intro rfl trivial)))))
        · have n27 := mt (nI_ltI (a := j) (b := b) (by omega) (by omega)).mpr h27
          refine v_iload (i := 4) h 30 32 dL_far_30 rfl ld4 ?_
          refine v_iload_n (i := 1) h 32 33 dL_far_32 rfl rfl ld1 ?_
          refine v_icmp_ge h 33 36 40 dL_far_33 rfl (by decide) (fun h33 => ?_) (fun h33 => ?_)
          · have n33 := (nI_leI (a := a) (b := j) (by omega) (by omega)).mp h33
            refine v_iconst (v := 0) h 40 41 dL_far_40 rfl (by decide) ?_
            refine v_istore (i := 5) h 41 43 dL_far_41 rfl (by decide) (so5 rfl) ?_
            refine v_iload_n (i := 3) h 43 44 dL_far_43 rfl rfl ld3 ?_
            refine v_iload (i := 5) h 44 46 dL_far_44 rfl ld5 ?_
            refine v_if_eq h 46 49 58 dL_far_46 rfl (by decide) (fun h46 => ?_) (fun h46 => absurd (by decide) h46)
            refine v_iconst (v := 0) h 58 59 dL_far_58 rfl (by decide) ?_
            refine v_iadd h 59 60 dL_far_59 rfl ?_
            refine v_istore_n (i := 3) h 60 61 dL_far_60 rfl rfl (by decide) (so3 rfl) ?_
            refine v_iinc (i := 4) h 61 64 dL_far_61 rfl ld4 (by first | exact iinc1 _ | rfl) (by decide) (so4 rfl) ?_
            refine v_goto h 64 5 dL_far_64 (by decide) ?_
            have q := ih (j + 1) (by omega)
            rw [farP_s, if_neg (by omega)] at q
            exact V.weakT q (And.intro rfl (And.intro rfl (And.intro rfl (And.intro rfl (And.intro rfl trivial)))))
          · have n33 := mt (nI_leI (a := a) (b := j) (by omega) (by omega)).mpr h33
            refine v_iconst (v := 1) h 36 37 dL_far_36 rfl (by decide) ?_
            refine v_goto h 37 41 dL_far_37 (by decide) ?_
            refine v_istore (i := 5) h 41 43 dL_far_41 rfl (by decide) (so5 rfl) ?_
            refine v_iload_n (i := 3) h 43 44 dL_far_43 rfl rfl ld3 ?_
            refine v_iload (i := 5) h 44 46 dL_far_44 rfl ld5 ?_
            refine v_if_eq h 46 49 58 dL_far_46 rfl (by decide) (fun h46 => absurd h46 (by decide)) (fun h46 => ?_)
            refine v_aload_n (i := 0) h 49 50 dL_far_49 rfl rfl ld0 ?_
            refine v_iconst (v := nI 1) h 50 51 dL_far_50 rfl (by decide) ?_
            refine v_iload (i := 4) h 51 53 dL_far_51 rfl ld4 ?_
            refine v_iaddN h 53 54 dL_far_53 rfl ?_
            refine v_ldG h 54 55 (1 + j) dL_far_54 rfl (by omega) ?_
            refine v_goto h 55 59 dL_far_55 (by decide) ?_
            refine v_iadd h 59 60 dL_far_59 rfl ?_
            refine v_istore_n (i := 3) h 60 61 dL_far_60 rfl rfl (by decide) (so3 rfl) ?_
            refine v_iinc (i := 4) h 61 64 dL_far_61 rfl ld4 (by first | exact iinc1 _ | rfl) (by decide) (so4 rfl) ?_
            refine v_goto h 64 5 dL_far_64 (by decide) ?_
            have q := ih (j + 1) (by omega)
            rw [farP_s, if_pos (by omega)] at q
            exact V.weakT q (And.intro rfl (And.intro rfl (And.intro rfl (And.intro rfl (And.intro rfl trivial)))))
      · have n15 := mt (nI_ltI (a := j) (b := a) (by omega) (by omega)).mpr h15
        refine v_iload (i := 4) h 18 20 dL_far_18 rfl ld4 ?_
        refine v_iload_n (i := 2) h 20 21 dL_far_20 rfl rfl ld2 ?_
        refine v_icmp_lt h 21 24 36 dL_far_21 rfl (by decide) (fun h21 => ?_) (fun h21 => ?_)
        · have n21 := (nI_ltI (a := j) (b := b) (by omega) (by omega)).mp h21
          refine v_iconst (v := 1) h 36 37 dL_far_36 rfl (by decide) ?_
          refine v_goto h 37 41 dL_far_37 (by decide) ?_
          refine v_istore (i := 5) h 41 43 dL_far_41 rfl (by decide) (so5 rfl) ?_
          refine v_iload_n (i := 3) h 43 44 dL_far_43 rfl rfl ld3 ?_
          refine v_iload (i := 5) h 44 46 dL_far_44 rfl ld5 ?_
          refine v_if_eq h 46 49 58 dL_far_46 rfl (by decide) (fun h46 => absurd h46 (by decide)) (fun h46 => ?_)
          refine v_aload_n (i := 0) h 49 50 dL_far_49 rfl rfl ld0 ?_
          refine v_iconst (v := nI 1) h 50 51 dL_far_50 rfl (by decide) ?_
          refine v_iload (i := 4) h 51 53 dL_far_51 rfl ld4 ?_
          refine v_iaddN h 53 54 dL_far_53 rfl ?_
          refine v_ldG h 54 55 (1 + j) dL_far_54 rfl (by omega) ?_
          refine v_goto h 55 59 dL_far_55 (by decide) ?_
          refine v_iadd h 59 60 dL_far_59 rfl ?_
          refine v_istore_n (i := 3) h 60 61 dL_far_60 rfl rfl (by decide) (so3 rfl) ?_
          refine v_iinc (i := 4) h 61 64 dL_far_61 rfl ld4 (by first | exact iinc1 _ | rfl) (by decide) (so4 rfl) ?_
          refine v_goto h 64 5 dL_far_64 (by decide) ?_
          have q := ih (j + 1) (by omega)
          rw [farP_s, if_pos (by omega)] at q
          exact V.weakT q (And.intro rfl (And.intro rfl (And.intro rfl (And.intro rfl (And.intro rfl trivial)))))
        · have n21 := mt (nI_ltI (a := j) (b := b) (by omega) (by omega)).mpr h21
          refine v_iload (i := 4) h 24 26 dL_far_24 rfl ld4 ?_
          refine v_iload_n (i := 2) h 26 27 dL_far_26 rfl rfl ld2 ?_
          refine v_icmp_lt h 27 30 40 dL_far_27 rfl (by decide) (fun h27 => ?_) (fun h27 => ?_)
          · have n27 := (nI_ltI (a := j) (b := b) (by omega) (by omega)).mp h27
            refine v_iconst (v := 0) h 40 41 dL_far_40 rfl (by decide) ?_
            refine v_istore (i := 5) h 41 43 dL_far_41 rfl (by decide) (so5 rfl) ?_
            refine v_iload_n (i := 3) h 43 44 dL_far_43 rfl rfl ld3 ?_
            refine v_iload (i := 5) h 44 46 dL_far_44 rfl ld5 ?_
            refine v_if_eq h 46 49 58 dL_far_46 rfl (by decide) (fun h46 => ?_) (fun h46 => absurd (by decide) h46)
            refine v_iconst (v := 0) h 58 59 dL_far_58 rfl (by decide) ?_
            refine v_iadd h 59 60 dL_far_59 rfl ?_
            refine v_istore_n (i := 3) h 60 61 dL_far_60 rfl rfl (by decide) (so3 rfl) ?_
            refine v_iinc (i := 4) h 61 64 dL_far_61 rfl ld4 (by first | exact iinc1 _ | rfl) (by decide) (so4 rfl) ?_
            refine v_goto h 64 5 dL_far_64 (by decide) ?_
            have q := ih (j + 1) (by omega)
            rw [farP_s, if_neg (by omega)] at q
            exact V.weakT q (And.intro rfl (And.intro rfl (And.intro rfl (And.intro rfl (And.intro rfl trivial)))))
          · have n27 := mt (nI_ltI (a := j) (b := b) (by omega) (by omega)).mpr h27
            refine v_iload (i := 4) h 30 32 dL_far_30 rfl ld4 ?_
            refine v_iload_n (i := 1) h 32 33 dL_far_32 rfl rfl ld1 ?_
            refine v_icmp_ge h 33 36 40 dL_far_33 rfl (by decide) (fun h33 => ?_) (fun h33 => ?_)
            · have n33 := (nI_leI (a := a) (b := j) (by omega) (by omega)).mp h33
              refine v_iconst (v := 0) h 40 41 dL_far_40 rfl (by decide) ?_
              refine v_istore (i := 5) h 41 43 dL_far_41 rfl (by decide) (so5 rfl) ?_
              refine v_iload_n (i := 3) h 43 44 dL_far_43 rfl rfl ld3 ?_
              refine v_iload (i := 5) h 44 46 dL_far_44 rfl ld5 ?_
              refine v_if_eq h 46 49 58 dL_far_46 rfl (by decide) (fun h46 => ?_) (fun h46 => absurd (by decide) h46)
              refine v_iconst (v := 0) h 58 59 dL_far_58 rfl (by decide) ?_
              refine v_iadd h 59 60 dL_far_59 rfl ?_
              refine v_istore_n (i := 3) h 60 61 dL_far_60 rfl rfl (by decide) (so3 rfl) ?_
              refine v_iinc (i := 4) h 61 64 dL_far_61 rfl ld4 (by first | exact iinc1 _ | rfl) (by decide) (so4 rfl) ?_
              refine v_goto h 64 5 dL_far_64 (by decide) ?_
              have q := ih (j + 1) (by omega)
              rw [farP_s, if_neg (by omega)] at q
              exact V.weakT q (And.intro rfl (And.intro rfl (And.intro rfl (And.intro rfl (And.intro rfl trivial)))))
            · have n33 := mt (nI_leI (a := a) (b := j) (by omega) (by omega)).mpr h33
              refine v_iconst (v := 1) h 36 37 dL_far_36 rfl (by decide) ?_
              refine v_goto h 37 41 dL_far_37 (by decide) ?_
              refine v_istore (i := 5) h 41 43 dL_far_41 rfl (by decide) (so5 rfl) ?_
              refine v_iload_n (i := 3) h 43 44 dL_far_43 rfl rfl ld3 ?_
              refine v_iload (i := 5) h 44 46 dL_far_44 rfl ld5 ?_
              refine v_if_eq h 46 49 58 dL_far_46 rfl (by decide) (fun h46 => absurd h46 (by decide)) (fun h46 => ?_)
              refine v_aload_n (i := 0) h 49 50 dL_far_49 rfl rfl ld0 ?_
              refine v_iconst (v := nI 1) h 50 51 dL_far_50 rfl (by decide) ?_
              refine v_iload (i := 4) h 51 53 dL_far_51 rfl ld4 ?_
              refine v_iaddN h 53 54 dL_far_53 rfl ?_
              refine v_ldG h 54 55 (1 + j) dL_far_54 rfl (by omega) ?_
              refine v_goto h 55 59 dL_far_55 (by decide) ?_
              refine v_iadd h 59 60 dL_far_59 rfl ?_
              refine v_istore_n (i := 3) h 60 61 dL_far_60 rfl rfl (by decide) (so3 rfl) ?_
              refine v_iinc (i := 4) h 61 64 dL_far_61 rfl ld4 (by first | exact iinc1 _ | rfl) (by decide) (so4 rfl) ?_
              refine v_goto h 64 5 dL_far_64 (by decide) ?_
              have q := ih (j + 1) (by omega)
              rw [farP_s, if_pos (by omega)] at q
              exact V.weakT q (And.intro rfl (And.intro rfl (And.intro rfl (And.intro rfl (And.intro rfl trivial)))))
  exact V.weakT (loop5 6 0 (by omega)) (And.intro rfl (And.intro rfl (And.intro rfl (And.intro rfl (And.intro rfl trivial)))))

theorem wk_form : ∀ r, r < 5 → ∀ k, k < 31 → 2 + nI r + nI r * (nI k / 5) = 2 + nI r * (1 + nI k / 5) := by decide +kernel
theorem wkm1 {x : Int32} {b : Bool} : x - (if b = true then 1 else 0) = if b = true then x - 1 else x := by
  cases b with
  | true => rw [if_pos rfl, if_pos rfl]
  | false => rw [if_neg (by decide), if_neg (by decide), Int32.sub_zero]
theorem hi_stay {S : St} {c n : Nat} {tn : Int32} (h : nI n = tn ∨ ¬ S (125 + 8 * n + 2) = 2 ∨ ¬ S (125 + 8 * n + 0) = S (13 + 8 * c + 0)) : hI_ S c tn (n + 1) = hI_ S c tn n := by
  rw [hI_s]
  have e : hI_ S c tn n = 0 ∨ hI_ S c tn n = 1 := by unfold hI_; split; exact Or.inr rfl; exact Or.inl rfl
  rcases e with e | e
  · rw [e, if_pos rfl]
    rcases h with h | h | h
    · rw [if_pos h]
    · rw [if_neg h, ite_self]
    · rw [if_neg h, ite_self, ite_self]
  · rw [e, if_neg (by decide)]
theorem hi_go {S : St} {c n : Nat} {tn : Int32} (h1 : ¬ nI n = tn) (h2 : S (125 + 8 * n + 2) = 2) (h3 : S (125 + 8 * n + 0) = S (13 + 8 * c + 0)) : hI_ S c tn (n + 1) = 1 := by
  rw [hI_s]
  by_cases e : hI_ S c tn n = 0
  · rw [if_pos e, if_neg h1, if_pos h2, if_pos h3]
  · rw [if_neg e]
set_option maxRecDepth 100000 in
set_option maxHeartbeats 4000000 in
theorem k_work {E : EE} {B : Nat} {R : St} {w : Wo} {c t nt : Nat} (hnt : nt ≤ 4) (hc : c < 8) (ht : t < nt) (e8 : R 8 = nI nt) (hr : ∃ r, 1 ≤ r ∧ r ≤ 4 ∧ R (13 + 8 * c + 1) = nI r) (hk : ∃ k, k ≤ 30 ∧ R (125 + 8 * t + 1) = nI k) : Cd E mL_work (lw E B R w) [.ref B, .ref (B + 1), .ref (B + 2), .int (nI c), .int (nI t)] (some (.int (wkS R nt c (nI t) (R (125 + 8 * t + 1))))) (lw E B R w) := by
  refine Cd.of RL rfl (by decide) [some (.ref B), some (.ref (B + 1)), some (.ref (B + 2)), some (.int (nI c)), some (.int (nI t)), none, none, none] (Nat.le_of_ble_eq_true rfl) rfl (fun Γ h f hmn => ?_)
  obtain ⟨r, hr1, hr2, er⟩ := hr
  obtain ⟨q, hq, eq⟩ := hk
  have hwk : wkS R nt c (nI t) (R (125 + 8 * t + 1)) = wkM R c (R (125 + 8 * t + 1)) - hI_ R c (nI t) nt := by
    unfold wkS hI_
    rw [wkm1]
    cases hlpN R c (nI t) nt with
    | true => rw [if_pos rfl, if_pos rfl, wkM, er, eq, wk_1 r (by omega) hr1 q (by omega)]
    | false => rw [if_neg (by decide), if_neg (by decide)]
  have hw0 : 2 + R (13 + 8 * c + 1) + R (13 + 8 * c + 1) * (R (125 + 8 * t + 1) / 5) = wkM R c (R (125 + 8 * t + 1)) := by
    rw [wkM, er, eq, wk_form r (by omega) q (by omega)]
  rw [hwk] at f
  refine v_iconst (v := 2) h 0 1 dL_work_0 rfl (by decide) ?_
  refine v_aload_n (i := 1) h 1 2 dL_work_1 rfl rfl ld1 ?_
  refine v_bipush (v := nI 8) h 2 4 dL_work_2 rfl (by decide) ?_
  refine v_iload_n (i := 3) h 4 5 dL_work_4 rfl rfl ld3 ?_
  refine v_imulN h 5 6 dL_work_5 rfl ?_
  refine v_iconst (v := nI 1) h 6 7 dL_work_6 rfl (by decide) ?_
  refine v_iaddN h 7 8 dL_work_7 rfl ?_
  refine v_ldE h 8 9 c 1 dL_work_8 rfl (by omega) (by omega) ?_
  refine v_iadd h 9 10 dL_work_9 rfl ?_
  refine v_aload_n (i := 1) h 10 11 dL_work_10 rfl rfl ld1 ?_
  refine v_bipush (v := nI 8) h 11 13 dL_work_11 rfl (by decide) ?_
  refine v_iload_n (i := 3) h 13 14 dL_work_13 rfl rfl ld3 ?_
  refine v_imulN h 14 15 dL_work_14 rfl ?_
  refine v_iconst (v := nI 1) h 15 16 dL_work_15 rfl (by decide) ?_
  refine v_iaddN h 16 17 dL_work_16 rfl ?_
  refine v_ldE h 17 18 c 1 dL_work_17 rfl (by omega) (by omega) ?_
  refine v_aload_n (i := 2) h 18 19 dL_work_18 rfl rfl ld2 ?_
  refine v_bipush (v := nI 8) h 19 21 dL_work_19 rfl (by decide) ?_
  refine v_iload (i := 4) h 21 23 dL_work_21 rfl ld4 ?_
  refine v_imulN h 23 24 dL_work_23 rfl ?_
  refine v_iconst (v := nI 1) h 24 25 dL_work_24 rfl (by decide) ?_
  refine v_iaddN h 25 26 dL_work_25 rfl ?_
  refine v_ldQ h 26 27 t 1 dL_work_26 rfl (by omega) (by omega) ?_
  refine v_iconst (v := 5) h 27 28 dL_work_27 rfl (by decide) ?_
  refine v_idiv h 28 29 dL_work_28 rfl (by decide) ?_
  refine v_imul h 29 30 dL_work_29 rfl ?_
  refine v_iadd h 30 31 dL_work_30 rfl ?_
  rw [hw0]
  refine v_istore (i := 5) h 31 33 dL_work_31 rfl (by decide) (so5 rfl) ?_
  refine v_iconst (v := 0) h 33 34 dL_work_33 rfl (by decide) ?_
  refine v_istore (i := 6) h 34 36 dL_work_34 rfl (by decide) (so6 rfl) ?_
  refine v_iconst (v := 0) h 36 37 dL_work_36 rfl (by decide) ?_
  refine v_istore (i := 7) h 37 39 dL_work_37 rfl (by decide) (so7 rfl) ?_
  have loop39 : ∀ d j, j + d = nt → V E Γ 0 0 39 [some (.ref B), some (.ref (B + 1)), some (.ref (B + 2)), some (.int (nI c)), some (.int (nI t)), some (.int (wkM R c (R (125 + 8 * t + 1)))), some (.int (hI_ R c (nI t) j)), some (.int (nI j))] [] (lw E B R w) := by
    intro d
    induction d with
    | zero =>
      intro j hj
      obtain rfl : nt = j := by omega
      refine v_iload (i := 7) h 39 41 dL_work_39 rfl ld7 ?_
      refine v_aload_n (i := 0) h 41 42 dL_work_41 rfl rfl ld0 ?_
      refine v_bipush (v := nI 8) h 42 44 dL_work_42 rfl (by decide) ?_
      refine v_ldG h 44 45 8 dL_work_44 rfl (by omega) ?_
      rw [e8]
      refine v_icmp_ge h 45 48 98 dL_work_45 rfl (by decide) (fun h45 => ?_) (fun h45 => absurd (nI_le (a := nt) (b := nt) (by omega) (by omega)) h45)
      refine v_iload (i := 5) h 98 100 dL_work_98 rfl ld5 ?_
      refine v_iload (i := 6) h 100 102 dL_work_100 rfl ld6 ?_
      refine v_isub h 102 103 dL_work_102 rfl ?_
      exact v_iret h 103 f dL_work_103 rfl (Nat.zero_le _) (Nat.zero_le _) rfl rfl
    | succ d ih =>
      intro j hj
      refine v_iload (i := 7) h 39 41 dL_work_39 rfl ld7 ?_
      refine v_aload_n (i := 0) h 41 42 dL_work_41 rfl rfl ld0 ?_
      refine v_bipush (v := nI 8) h 42 44 dL_work_42 rfl (by decide) ?_
      refine v_ldG h 44 45 8 dL_work_44 rfl (by omega) ?_
      rw [e8]
      refine v_icmp_ge h 45 48 98 dL_work_45 rfl (by decide) (fun h45 => absurd h45 (nI_ge (a := j) (b := nt) (by omega) (by omega))) (fun h45 => ?_)
      refine v_iload (i := 7) h 48 50 dL_work_48 rfl ld7 ?_
      refine v_iload (i := 4) h 50 52 dL_work_50 rfl ld4 ?_
      refine v_icmp_eq h 52 55 88 dL_work_52 rfl (by decide) (fun h52 => ?_) (fun h52 => ?_)
      · have n52 := (nI_eq (a := j) (b := t) (by omega) (by omega)).mp h52
        refine v_iload (i := 6) h 88 90 dL_work_88 rfl ld6 ?_
        refine v_istore (i := 6) h 90 92 dL_work_90 rfl (by decide) (so6 rfl) ?_
        refine v_iinc (i := 7) h 92 95 dL_work_92 rfl ld7 (by first | exact iinc1 _ | rfl) (by decide) (so7 rfl) ?_
        refine v_goto h 95 39 dL_work_95 (by decide) ?_
        have q9 := ih (j + 1) (by omega)
        rw [hi_stay (Or.inl (congrArg nI n52))] at q9
        exact V.weakT q9 (And.intro rfl (And.intro rfl (And.intro rfl (And.intro rfl (And.intro rfl (And.intro rfl (And.intro rfl (And.intro rfl trivial))))))))
      · have n52 := mt (nI_eq (a := j) (b := t) (by omega) (by omega)).mpr h52
        refine v_aload_n (i := 2) h 55 56 dL_work_55 rfl rfl ld2 ?_
        refine v_bipush (v := nI 8) h 56 58 dL_work_56 rfl (by decide) ?_
        refine v_iload (i := 7) h 58 60 dL_work_58 rfl ld7 ?_
        refine v_imulN h 60 61 dL_work_60 rfl ?_
        refine v_iconst (v := nI 2) h 61 62 dL_work_61 rfl (by decide) ?_
        refine v_iaddN h 62 63 dL_work_62 rfl ?_
        refine v_ldQ h 63 64 j 2 dL_work_63 rfl (by omega) (by omega) ?_
        refine v_iconst (v := 2) h 64 65 dL_work_64 rfl (by decide) ?_
        refine v_icmp_ne h 65 68 88 dL_work_65 rfl (by decide) (fun h65 => ?_) (fun h65 => ?_)
        · refine v_iload (i := 6) h 88 90 dL_work_88 rfl ld6 ?_
          refine v_istore (i := 6) h 90 92 dL_work_90 rfl (by decide) (so6 rfl) ?_
          refine v_iinc (i := 7) h 92 95 dL_work_92 rfl ld7 (by first | exact iinc1 _ | rfl) (by decide) (so7 rfl) ?_
          refine v_goto h 95 39 dL_work_95 (by decide) ?_
          have q9 := ih (j + 1) (by omega)
          rw [hi_stay (Or.inr (Or.inl h65))] at q9
          exact V.weakT q9 (And.intro rfl (And.intro rfl (And.intro rfl (And.intro rfl (And.intro rfl (And.intro rfl (And.intro rfl (And.intro rfl trivial))))))))
        · refine v_aload_n (i := 2) h 68 69 dL_work_68 rfl rfl ld2 ?_
          refine v_bipush (v := nI 8) h 69 71 dL_work_69 rfl (by decide) ?_
          refine v_iload (i := 7) h 71 73 dL_work_71 rfl ld7 ?_
          refine v_imulN h 73 74 dL_work_73 rfl ?_
          refine v_ldQ0 h 74 75 j dL_work_74 rfl (by omega) ?_
          refine v_aload_n (i := 1) h 75 76 dL_work_75 rfl rfl ld1 ?_
          refine v_bipush (v := nI 8) h 76 78 dL_work_76 rfl (by decide) ?_
          refine v_iload_n (i := 3) h 78 79 dL_work_78 rfl rfl ld3 ?_
          refine v_imulN h 79 80 dL_work_79 rfl ?_
          refine v_ldE0 h 80 81 c dL_work_80 rfl (by omega) ?_
          refine v_icmp_ne h 81 84 88 dL_work_81 rfl (by decide) (fun h81 => ?_) (fun h81 => ?_)
          · refine v_iload (i := 6) h 88 90 dL_work_88 rfl ld6 ?_
            refine v_istore (i := 6) h 90 92 dL_work_90 rfl (by decide) (so6 rfl) ?_
            refine v_iinc (i := 7) h 92 95 dL_work_92 rfl ld7 (by first | exact iinc1 _ | rfl) (by decide) (so7 rfl) ?_
            refine v_goto h 95 39 dL_work_95 (by decide) ?_
            have q9 := ih (j + 1) (by omega)
            rw [hi_stay (Or.inr (Or.inr h81))] at q9
            exact V.weakT q9 (And.intro rfl (And.intro rfl (And.intro rfl (And.intro rfl (And.intro rfl (And.intro rfl (And.intro rfl (And.intro rfl trivial))))))))
          · refine v_iconst (v := 1) h 84 85 dL_work_84 rfl (by decide) ?_
            refine v_goto h 85 90 dL_work_85 (by decide) ?_
            refine v_istore (i := 6) h 90 92 dL_work_90 rfl (by decide) (so6 rfl) ?_
            refine v_iinc (i := 7) h 92 95 dL_work_92 rfl ld7 (by first | exact iinc1 _ | rfl) (by decide) (so7 rfl) ?_
            refine v_goto h 95 39 dL_work_95 (by decide) ?_
            have q9 := ih (j + 1) (by omega)
            rw [hi_go h52 h65 h81] at q9
            exact V.weakT q9 (And.intro rfl (And.intro rfl (And.intro rfl (And.intro rfl (And.intro rfl (And.intro rfl (And.intro rfl (And.intro rfl trivial))))))))
  exact V.weakT (loop39 nt 0 (by omega)) (And.intro rfl (And.intro rfl (And.intro rfl (And.intro rfl (And.intro rfl (And.intro rfl (And.intro rfl (And.intro rfl trivial))))))))

/-- the one number by which the law chooses -/
def keyN (k a c : Nat) : Nat := (k * 1000 + 500 - a) * 20 + 14 - c
theorem keyV {k a c : Nat} (hk : k ≤ 23) (ha : a ≤ 120) (hc : c < 8) : (nI k * 1000 + 500 - nI a) * 20 + 14 - nI c = nI (keyN k a c) := by
  unfold keyN
  rw [show (1000 : Int32) = nI 1000 by decide +kernel, show (500 : Int32) = nI 500 by decide +kernel, show (20 : Int32) = nI 20 by decide +kernel, show (14 : Int32) = nI 14 by decide +kernel, pk_mul, nI_add, pk_sub (by omega), pk_mul, nI_add, pk_sub (by omega)]
theorem rk_is {S : St} {sp nc nt ne m c : Nat} (hI : Inv S sp nc nt ne m) (hc : c < nc) : ∃ k, k ≤ 23 ∧ rkS S c = nI k := by
  obtain ⟨-, -, ⟨k, hk, e⟩, z, -⟩ := hI.2.2.1 c hc
  unfold rkS
  rcases z with z | z
  · exact ⟨k, by omega, by rw [if_pos z, e]⟩
  · exact ⟨k + 3, by omega, by rw [if_neg (by rw [z]; decide), e, show (3 : Int32) = nI 3 by decide +kernel, nI_add]⟩
theorem way_is {S : St} {sp nc nt ne m : Nat} (hI : Inv S sp nc nt ne m) {x y : Int32} (hx : InS x) (hy : InS y) : ∃ a, a ≤ 120 ∧ wayV S x y = nI a := by
  obtain ⟨a, ha, rfl⟩ := hx
  obtain ⟨b, hb, rfl⟩ := hy
  unfold wayV
  rw [nI_clamp (by omega), nI_clamp (by omega)]
  obtain ⟨v, h1, h2, h3⟩ := waySum_ge hI.1.1.2.2.2 (min a b) (max a b - min a b) (by omega)
  exact ⟨v, by omega, h3⟩
/-- chs and the law's two numbers go side by side -/
def bstI (S : St) (x : Int32) (n : Nat) (y : Int32) : Prop := ((chs S x n).1 = -1 ∧ y = -1) ∨ ∃ b k a, b < n ∧ k ≤ 23 ∧ a ≤ 120 ∧ (chs S x n).1 = nI b ∧ (chs S x n).2 = (nI k, nI a) ∧ y = nI (keyN k a b)
theorem bst_no {S : St} {x : Int32} {n : Nat} {y : Int32} (h : bstI S x n y) (h4 : ¬ S (13 + 8 * n + 4) = 0) : bstI S x (n + 1) y ∧ (chs S x (n + 1)).1 = (chs S x n).1 := by
  unfold bstI
  rw [chs_succ, if_neg h4]
  refine ⟨?_, rfl⟩
  rcases h with h | ⟨b, k, a, h1, h2, h3, h5, h6, h7⟩
  · exact Or.inl h
  · exact Or.inr ⟨b, k, a, by omega, h2, h3, h5, h6, h7⟩
theorem bst_yes {S : St} {x : Int32} {n : Nat} {y : Int32} (hn : n < 8) (h : bstI S x n y) (h4 : S (13 + 8 * n + 4) = 0) {k' a' : Nat} (hk : k' ≤ 23) (ha : a' ≤ 120) (e1 : rkS S n = nI k') (e2 : wayV S x (S (13 + 8 * n + 0)) = nI a') (hlt : y < nI (keyN k' a' n)) : bstI S x (n + 1) (nI (keyN k' a' n)) ∧ (chs S x (n + 1)).1 = nI n := by
  have new : (chs S x (n + 1)) = (nI n, nI k', nI a') → bstI S x (n + 1) (nI (keyN k' a' n)) ∧ (chs S x (n + 1)).1 = nI n := fun e => ⟨Or.inr ⟨n, k', a', by omega, hk, ha, by rw [e], by rw [e], rfl⟩, by rw [e]⟩
  refine new ?_
  rw [chs_succ, if_pos h4, e1, e2]
  rcases h with ⟨h, -⟩ | ⟨b, k, a, h1, h2, h3, h5, h6, h7⟩
  · rw [if_pos h]
  · rw [h7] at hlt
    have hq := (nI_ltI (a := keyN k a b) (b := keyN k' a' n) (by unfold keyN; omega) (by unfold keyN; omega)).mp hlt
    unfold keyN at hq
    rw [if_neg (by rw [h5]; exact nI_ne_m1 (by omega)), h6]
    by_cases c1 : k < k'
    · rw [if_pos (nI_lt c1 (by omega))]
    · rw [if_neg (nI_nlt (by omega) (by omega)), if_pos (congrArg nI (show k' = k by omega)), if_neg (nI_ge (by omega) (by omega))]
theorem bst_keep {S : St} {x : Int32} {n : Nat} {y : Int32} (hn : n < 8) (h : bstI S x n y) (h4 : S (13 + 8 * n + 4) = 0) {k' a' : Nat} (hk : k' ≤ 23) (ha : a' ≤ 120) (e1 : rkS S n = nI k') (e2 : wayV S x (S (13 + 8 * n + 0)) = nI a') (hlt : ¬ y < nI (keyN k' a' n)) : bstI S x (n + 1) y ∧ (chs S x (n + 1)).1 = (chs S x n).1 := by
  rcases h with ⟨h, rfl⟩ | ⟨b, k, a, h1, h2, h3, h5, h6, h7⟩
  · exact absurd (Int32.lt_of_lt_of_le (show (-1 : Int32) < 0 by decide) (nI_pos' (n := keyN k' a' n) (by unfold keyN; omega))) hlt
  · have e : chs S x (n + 1) = chs S x n := by
      rw [h7] at hlt
      have hq := mt (nI_ltI (a := keyN k a b) (b := keyN k' a' n) (by unfold keyN; omega) (by unfold keyN; omega)).mpr hlt
      unfold keyN at hq
      rw [chs_succ, if_pos h4, e1, e2, if_neg (by rw [h5]; exact nI_ne_m1 (by omega)), h6, if_neg (nI_nlt (by omega) (by omega))]
      by_cases c1 : k' = k
      · rw [if_pos (congrArg nI c1), if_pos (nI_le (by omega) (by omega))]
      · rw [if_neg (fun q => c1 (nI_inj (by omega) (by omega) q))]
    unfold bstI
    rw [e]
    exact ⟨Or.inr ⟨b, k, a, by omega, h2, h3, h5, h6, h7⟩, rfl⟩
set_option maxRecDepth 100000 in
set_option maxHeartbeats 4000000 in
theorem k_choice {E : EE} {B : Nat} {R : St} {w : Wo} {sp nc nt ne m : Nat} {x : Int32} (hI : Inv R sp nc nt ne m) (h8 : nc ≤ 8) (hx : InS x) : Cd E mL_choice (lw E B R w) [.ref B, .ref (B + 1), .int x] (some (.int (chs R x nc).1)) (lw E B R w) := by
  have e7 := hI.c7
  have mle : ∀ {j : Nat} {y : Int32}, bstI R x j y → (-1 : Int32) ≤ y := by
    intro j y hb
    rcases hb with ⟨-, rfl⟩ | ⟨b, k, a, h1, h2, h3, h5, h6, rfl⟩
    · exact Int32.le_refl _
    · exact Int32.le_trans (show (-1 : Int32) ≤ 0 by decide) (nI_pos' (by unfold keyN; omega))
  refine Cd.of RL rfl (by decide) [some (.ref B), some (.ref (B + 1)), some (.int x), none, none, none, none, none] (Nat.le_of_ble_eq_true rfl) rfl (fun Γ h f hmn => ?_)
  refine v_iconst (v := (-1)) h 0 1 dL_choice_0 rfl (by decide) ?_
  refine v_istore_n (i := 3) h 1 2 dL_choice_1 rfl rfl (by decide) (so3 rfl) ?_
  refine v_iconst (v := (-1)) h 2 3 dL_choice_2 rfl (by decide) ?_
  refine v_istore (i := 4) h 3 5 dL_choice_3 rfl (by decide) (so4 rfl) ?_
  refine v_iconst (v := 0) h 5 6 dL_choice_5 rfl (by decide) ?_
  refine v_istore (i := 5) h 6 8 dL_choice_6 rfl (by decide) (so5 rfl) ?_
  have loop8 : ∀ dd j, j + dd = nc → ∀ y, bstI R x j y → V E Γ 0 0 8 [some (.ref B), some (.ref (B + 1)), some (.int x), some (.int (chs R x j).1), some (.int y), some (.int (nI j)), none, none] [] (lw E B R w) := by
    intro dd
    induction dd with
    | zero =>
      intro j hj y hb
      obtain rfl : nc = j := by omega
      refine v_iload (i := 5) h 8 10 dL_choice_8 rfl ld5 ?_
      refine v_aload_n (i := 0) h 10 11 dL_choice_10 rfl rfl ld0 ?_
      refine v_bipush (v := nI 7) h 11 13 dL_choice_11 rfl (by decide) ?_
      refine v_ldG h 13 14 7 dL_choice_13 rfl (by omega) ?_
      rw [e7]
      refine v_icmp_ge h 14 17 126 dL_choice_14 rfl (by decide) (fun h14 => ?_) (fun h14 => absurd (nI_le (a := nc) (b := nc) (by omega) (by omega)) h14)
      refine v_iload_n (i := 3) h 126 127 dL_choice_126 rfl rfl ld3 ?_
      exact v_iret h 127 f dL_choice_127 rfl (Nat.zero_le _) (Nat.zero_le _) rfl rfl
    | succ dd ih =>
      intro j hj y hb
      refine v_iload (i := 5) h 8 10 dL_choice_8 rfl ld5 ?_
      refine v_aload_n (i := 0) h 10 11 dL_choice_10 rfl rfl ld0 ?_
      refine v_bipush (v := nI 7) h 11 13 dL_choice_11 rfl (by decide) ?_
      refine v_ldG h 13 14 7 dL_choice_13 rfl (by omega) ?_
      rw [e7]
      refine v_icmp_ge h 14 17 126 dL_choice_14 rfl (by decide) (fun h14 => absurd h14 (nI_ge (a := j) (b := nc) (by omega) (by omega))) (fun h14 => ?_)
      refine v_aload_n (i := 1) h 17 18 dL_choice_17 rfl rfl ld1 ?_
      refine v_bipush (v := nI 8) h 18 20 dL_choice_18 rfl (by decide) ?_
      refine v_iload (i := 5) h 20 22 dL_choice_20 rfl ld5 ?_
      refine v_imulN h 22 23 dL_choice_22 rfl ?_
      refine v_iconst (v := nI 2) h 23 24 dL_choice_23 rfl (by decide) ?_
      refine v_iaddN h 24 25 dL_choice_24 rfl ?_
      refine v_ldE h 25 26 j 2 dL_choice_25 rfl (by omega) (by omega) ?_
      refine v_iconst (v := 3) h 26 27 dL_choice_26 rfl (by decide) ?_
      refine v_aload_n (i := 1) h 27 28 dL_choice_27 rfl rfl ld1 ?_
      refine v_bipush (v := nI 8) h 28 30 dL_choice_28 rfl (by decide) ?_
      refine v_iload (i := 5) h 30 32 dL_choice_30 rfl ld5 ?_
      refine v_imulN h 32 33 dL_choice_32 rfl ?_
      refine v_iconst (v := nI 3) h 33 34 dL_choice_33 rfl (by decide) ?_
      refine v_iaddN h 34 35 dL_choice_34 rfl ?_
      refine v_ldE h 35 36 j 3 dL_choice_35 rfl (by omega) (by omega) ?_
      refine v_imul h 36 37 dL_choice_36 rfl ?_
      refine v_iadd h 37 38 dL_choice_37 rfl ?_
      rw [rk3 (hI.chz j (by omega))]
      refine v_istore (i := 6) h 38 40 dL_choice_38 rfl (by decide) (so6 rfl) ?_
      refine v_aload_n (i := 1) h 40 41 dL_choice_40 rfl rfl ld1 ?_
      refine v_bipush (v := nI 8) h 41 43 dL_choice_41 rfl (by decide) ?_
      refine v_iload (i := 5) h 43 45 dL_choice_43 rfl ld5 ?_
      refine v_imulN h 45 46 dL_choice_45 rfl ?_
      refine v_iconst (v := nI 4) h 46 47 dL_choice_46 rfl (by decide) ?_
      refine v_iaddN h 47 48 dL_choice_47 rfl ?_
      refine v_ldE h 48 49 j 4 dL_choice_48 rfl (by omega) (by omega) ?_
      refine v_if_ne h 49 52 87 dL_choice_49 rfl (by decide) (fun h49 => ?_) (fun h49 => ?_)
      · refine v_iconst (v := (-1)) h 87 88 dL_choice_87 rfl (by decide) ?_
        refine v_istore (i := 7) h 88 90 dL_choice_88 rfl (by decide) (so7 rfl) ?_
        refine v_iload (i := 7) h 90 92 dL_choice_90 rfl ld7 ?_
        refine v_iload (i := 4) h 92 94 dL_choice_92 rfl ld4 ?_
        refine v_icmp_le h 94 97 102 dL_choice_94 rfl (by decide) (fun h94 => ?_) (fun h94 => absurd (mle hb) h94)
        refine v_iload_n (i := 3) h 102 103 dL_choice_102 rfl rfl ld3 ?_
        refine v_istore_n (i := 3) h 103 104 dL_choice_103 rfl rfl (by decide) (so3 rfl) ?_
        refine v_iload (i := 7) h 104 106 dL_choice_104 rfl ld7 ?_
        refine v_iload (i := 4) h 106 108 dL_choice_106 rfl ld4 ?_
        refine v_icmp_le h 108 111 116 dL_choice_108 rfl (by decide) (fun h108 => ?_) (fun h108 => absurd (mle hb) h108)
        refine v_iload (i := 4) h 116 118 dL_choice_116 rfl ld4 ?_
        refine v_istore (i := 4) h 118 120 dL_choice_118 rfl (by decide) (so4 rfl) ?_
        refine v_iinc (i := 5) h 120 123 dL_choice_120 rfl ld5 (by first | exact iinc1 _ | rfl) (by decide) (so5 rfl) ?_
        refine v_goto h 123 8 dL_choice_123 (by decide) ?_
        obtain ⟨w1, w2⟩ := bst_no hb h49
        have q9 := ih (j + 1) (by omega) y w1
        rw [w2] at q9
        exact V.weakT q9 (And.intro rfl (And.intro rfl (And.intro rfl (And.intro rfl (And.intro rfl (And.intro rfl trivial))))))
      · obtain ⟨k9, hk9, e19⟩ := rk_is hI (c := j) (by omega)
        obtain ⟨a9, ha9, e29⟩ := way_is hI hx (hI.InC j (by omega))
        refine v_iload (i := 6) h 52 54 dL_choice_52 rfl ld6 ?_
        refine v_sipush (v := 1000) h 54 57 dL_choice_54 rfl (by decide) ?_
        refine v_imul h 57 58 dL_choice_57 rfl ?_
        refine v_sipush (v := 500) h 58 61 dL_choice_58 rfl (by decide) ?_
        refine v_iadd h 61 62 dL_choice_61 rfl ?_
        refine v_aload_n (i := 0) h 62 63 dL_choice_62 rfl rfl ld0 ?_
        refine v_iload_n (i := 2) h 63 64 dL_choice_63 rfl rfl ld2 ?_
        refine v_aload_n (i := 1) h 64 65 dL_choice_64 rfl rfl ld1 ?_
        refine v_bipush (v := nI 8) h 65 67 dL_choice_65 rfl (by decide) ?_
        refine v_iload (i := 5) h 67 69 dL_choice_67 rfl ld5 ?_
        refine v_imulN h 69 70 dL_choice_69 rfl ?_
        refine v_ldE0 h 70 71 j dL_choice_70 rfl (by omega) ?_
        refine v_callS1 h 71 74 dL_choice_71 rfl cb_L_far cs_L_far lk_L_9 (rok (by decide) (by decide)) ⟨rfl, rfl⟩ ⟨Nat.zero_le _, Nat.zero_le _⟩ (k_far hx (hI.InC j (by omega))) rfl rfl (Nat.le_of_ble_eq_true rfl) ?_
        refine v_isub h 74 75 dL_choice_74 rfl ?_
        refine v_bipush (v := 20) h 75 77 dL_choice_75 rfl (by decide) ?_
        refine v_imul h 77 78 dL_choice_77 rfl ?_
        refine v_bipush (v := 14) h 78 80 dL_choice_78 rfl (by decide) ?_
        refine v_iadd h 80 81 dL_choice_80 rfl ?_
        refine v_iload (i := 5) h 81 83 dL_choice_81 rfl ld5 ?_
        refine v_isub h 83 84 dL_choice_83 rfl ?_
        rw [e19, e29, keyV hk9 ha9 (by omega)]
        refine v_goto h 84 88 dL_choice_84 (by decide) ?_
        refine v_istore (i := 7) h 88 90 dL_choice_88 rfl (by decide) (so7 rfl) ?_
        refine v_iload (i := 7) h 90 92 dL_choice_90 rfl ld7 ?_
        refine v_iload (i := 4) h 92 94 dL_choice_92 rfl ld4 ?_
        refine v_icmp_le h 94 97 102 dL_choice_94 rfl (by decide) (fun h94 => ?_) (fun h94 => ?_)
        · refine v_iload_n (i := 3) h 102 103 dL_choice_102 rfl rfl ld3 ?_
          refine v_istore_n (i := 3) h 103 104 dL_choice_103 rfl rfl (by decide) (so3 rfl) ?_
          refine v_iload (i := 7) h 104 106 dL_choice_104 rfl ld7 ?_
          refine v_iload (i := 4) h 106 108 dL_choice_106 rfl ld4 ?_
          refine v_icmp_le h 108 111 116 dL_choice_108 rfl (by decide) (fun h108 => ?_) (fun h108 => absurd h94 h108)
          refine v_iload (i := 4) h 116 118 dL_choice_116 rfl ld4 ?_
          refine v_istore (i := 4) h 118 120 dL_choice_118 rfl (by decide) (so4 rfl) ?_
          refine v_iinc (i := 5) h 120 123 dL_choice_120 rfl ld5 (by first | exact iinc1 _ | rfl) (by decide) (so5 rfl) ?_
          refine v_goto h 123 8 dL_choice_123 (by decide) ?_
          obtain ⟨w1, w2⟩ := bst_keep (by omega) hb h49 hk9 ha9 e19 e29 (le_nlt h94)
          have q9 := ih (j + 1) (by omega) y w1
          rw [w2] at q9
          exact V.weakT q9 (And.intro rfl (And.intro rfl (And.intro rfl (And.intro rfl (And.intro rfl (And.intro rfl trivial))))))
        · refine v_iload (i := 5) h 97 99 dL_choice_97 rfl ld5 ?_
          refine v_goto h 99 103 dL_choice_99 (by decide) ?_
          refine v_istore_n (i := 3) h 103 104 dL_choice_103 rfl rfl (by decide) (so3 rfl) ?_
          refine v_iload (i := 7) h 104 106 dL_choice_104 rfl ld7 ?_
          refine v_iload (i := 4) h 106 108 dL_choice_106 rfl ld4 ?_
          refine v_icmp_le h 108 111 116 dL_choice_108 rfl (by decide) (fun h108 => absurd h108 h94) (fun h108 => ?_)
          refine v_iload (i := 7) h 111 113 dL_choice_111 rfl ld7 ?_
          refine v_goto h 113 118 dL_choice_113 (by decide) ?_
          refine v_istore (i := 4) h 118 120 dL_choice_118 rfl (by decide) (so4 rfl) ?_
          refine v_iinc (i := 5) h 120 123 dL_choice_120 rfl ld5 (by first | exact iinc1 _ | rfl) (by decide) (so5 rfl) ?_
          refine v_goto h 123 8 dL_choice_123 (by decide) ?_
          obtain ⟨w1, w2⟩ := bst_yes (by omega) hb h49 hk9 ha9 e19 e29 (nle_lt h94)
          have q9 := ih (j + 1) (by omega) _ w1
          rw [w2] at q9
          exact V.weakT q9 (And.intro rfl (And.intro rfl (And.intro rfl (And.intro rfl (And.intro rfl (And.intro rfl trivial))))))
  exact V.weakT (loop8 nc 0 (by omega) (-1) (Or.inl ⟨rfl, rfl⟩)) (And.intro rfl (And.intro rfl (And.intro rfl (And.intro rfl (And.intro rfl (And.intro rfl trivial))))))

