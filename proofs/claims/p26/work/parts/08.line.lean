/-! THE LINE'S WALK OF A MINUTE, piece by piece -/
theorem k_chairS {E : EE} {B : Nat} {S : St} {w : Wo} {c nc : Nat} (e7 : S 7 = nI nc) (hm : nc ≤ 14) (hc : c < nc) : Cd E mX1_chairAt (pl E B S w) [.ref B, .int (nI c)] (some (.ref (B + 3 + c))) (pl E B S w) := by
  have h := k_chairAt (E := E) (B := B) (S := S) (w := w) (nI c)
  rw [if3 (nI_pos (by omega)) (by rw [e7]; exact nI_ge hc (by omega)) (nI_ge (by omega) (by decide)), nI_clamp (by omega)] at h
  exact h
theorem k_teamS {E : EE} {B : Nat} {S : St} {w : Wo} {c nc : Nat} (e8 : S 8 = nI nc) (hm : nc ≤ 4) (hc : c < nc) : Cd E mX1_teamAt (pl E B S w) [.ref B, .int (nI c)] (some (.ref (B + 18 + c))) (pl E B S w) := by
  have h := k_teamAt (E := E) (B := B) (S := S) (w := w) (nI c)
  rw [if3 (nI_pos (by omega)) (by rw [e8]; exact nI_ge hc (by omega)) (nI_ge (by omega) (by decide)), nI_clamp (by omega)] at h
  exact h
def InS (x : Int32) : Prop := ∃ a, a ≤ 6 ∧ x = nI a
def waySum (S : St) (lo : Nat) : Nat → Int32
  | 0 => 0
  | n + 1 => waySum S lo n + S (1 + (lo + n))
def wayV (S : St) (x y : Int32) : Int32 := waySum S (min x.toNatClampNeg y.toNatClampNeg) (max x.toNatClampNeg y.toNatClampNeg - min x.toNatClampNeg y.toNatClampNeg)
theorem mxI {a b : Nat} (ha : a < 2 ^ 31) (hb : b < 2 ^ 31) : (if nI a < nI b then nI b else nI a) = nI (max a b) := by
  by_cases h : a < b
  · rw [if_pos (nI_lt h hb), Nat.max_eq_right (by omega)]
  · rw [if_neg (nI_nlt (by omega) ha), Nat.max_eq_left (by omega)]
theorem mnI {a b : Nat} (ha : a < 2 ^ 31) (hb : b < 2 ^ 31) : (if nI b < nI a then nI b else nI a) = nI (min a b) := by
  by_cases h : b < a
  · rw [if_pos (nI_lt h ha), Nat.min_eq_right (by omega)]
  · rw [if_neg (nI_nlt (by omega) hb), Nat.min_eq_left (by omega)]
set_option maxRecDepth 100000 in
set_option maxHeartbeats 4000000 in
theorem k_wayBetween {E : EE} {B : Nat} {S : St} {w : Wo} {x y : Int32} (hx : InS x) (hy : InS y) : Cd E mX1_wayBetween (pl E B S w) [.ref B, .int x, .int y] (some (.int (wayV S x y))) (pl E B S w) := by
  refine Cd.of RX1 rfl (by decide) [some (.ref B), some (.int x), some (.int y), none, none, none] (Nat.le_of_ble_eq_true rfl) rfl (fun Γ h f hmn => ?_)
  obtain ⟨a, ha, rfl⟩ := hx
  obtain ⟨b, hb, rfl⟩ := hy
  obtain ⟨lo, hlo⟩ : ∃ lo, lo = min a b := ⟨_, rfl⟩
  obtain ⟨n, hn⟩ : ∃ n, n = max a b - min a b := ⟨_, rfl⟩
  have hmx : max a b = lo + n := by omega
  have hln : lo + n ≤ 6 := by omega
  unfold wayV at f
  rw [nI_clamp (by omega), nI_clamp (by omega), ← hn, ← hlo] at f
  refine v_iconst (v := 0) h 0 1 dX1_wayBetween_0 rfl (by decide) ?_
  refine v_istore_n (i := 3) h 1 2 dX1_wayBetween_1 rfl rfl (by decide) (so3 rfl) ?_
  refine v_iload_n (i := 1) h 2 3 dX1_wayBetween_2 rfl rfl ld1 ?_
  refine v_iload_n (i := 2) h 3 4 dX1_wayBetween_3 rfl rfl ld2 ?_
  refine v_mmax h 4 7 dX1_wayBetween_4 rfl lk_X1_69 ⟨Nat.zero_le _, Nat.zero_le _⟩ (by decide) (Nat.le_of_ble_eq_true rfl) ?_
  rw [mxI (by omega) (by omega), hmx]
  refine v_istore (i := 4) h 7 9 dX1_wayBetween_7 rfl (by decide) (so4 rfl) ?_
  refine v_iload_n (i := 1) h 9 10 dX1_wayBetween_9 rfl rfl ld1 ?_
  refine v_iload_n (i := 2) h 10 11 dX1_wayBetween_10 rfl rfl ld2 ?_
  refine v_mmin h 11 14 dX1_wayBetween_11 rfl lk_X1_75 ⟨Nat.zero_le _, Nat.zero_le _⟩ (by decide) (Nat.le_of_ble_eq_true rfl) ?_
  rw [mnI (by omega) (by omega), ← hlo]
  refine v_istore (i := 5) h 14 16 dX1_wayBetween_14 rfl (by decide) (so5 rfl) ?_
  have loop16 : ∀ d j, j + d = n → V E Γ 0 0 16 [some (.ref B), some (.int (nI a)), some (.int (nI b)), some (.int (waySum S lo j)), some (.int (nI (lo + n))), some (.int (nI (lo + j)))] [] (pl E B S w) := by
    intro d
    induction d with
    | zero =>
      intro j hj
      obtain rfl : j = n := by omega
      refine v_iload (i := 5) h 16 18 dX1_wayBetween_16 rfl ld5 ?_
      refine v_iload (i := 4) h 18 20 dX1_wayBetween_18 rfl ld4 ?_
      refine v_icmp_ge h 20 23 38 dX1_wayBetween_20 rfl (by decide) (fun h20 => ?_) (fun h20 => absurd (nI_le (by omega) (by omega)) h20)
      refine v_iload_n (i := 3) h 38 39 dX1_wayBetween_38 rfl rfl ld3 ?_
      exact v_iret h 39 f dX1_wayBetween_39 rfl (Nat.zero_le _) (Nat.zero_le _) rfl rfl
    | succ d ih =>
      intro j hj
      refine v_iload (i := 5) h 16 18 dX1_wayBetween_16 rfl ld5 ?_
      refine v_iload (i := 4) h 18 20 dX1_wayBetween_18 rfl ld4 ?_
      refine v_icmp_ge h 20 23 38 dX1_wayBetween_20 rfl (by decide) (fun h20 => absurd h20 (nI_ge (by omega) (by omega))) (fun h20 => ?_)
      refine v_iload_n (i := 3) h 23 24 dX1_wayBetween_23 rfl rfl ld3 ?_
      refine v_aload_n (i := 0) h 24 25 dX1_wayBetween_24 rfl rfl ld0 ?_
      refine v_iload (i := 5) h 25 27 dX1_wayBetween_25 rfl ld5 ?_
      refine v_callV1 h 27 30 dX1_wayBetween_27 rfl cb_X1_wayBehind cv_X1_wayBehind pl_ln lk_X1_78 (rok (by decide) (by decide)) ⟨rfl, rfl⟩ ⟨Nat.zero_le _, Nat.zero_le _⟩ (k_wayB (i := lo + j) (by omega)) rfl rfl (Nat.le_of_ble_eq_true rfl) ?_
      refine v_iadd h 30 31 dX1_wayBetween_30 rfl ?_
      refine v_istore_n (i := 3) h 31 32 dX1_wayBetween_31 rfl rfl (by decide) (so3 rfl) ?_
      refine v_iinc (i := 5) h 32 35 dX1_wayBetween_32 rfl ld5 (by first | exact iinc1 _ | rfl) (by decide) (so5 rfl) ?_
      refine v_goto h 35 16 dX1_wayBetween_35 (by decide) ?_
      exact ih (j + 1) (by omega)
  exact loop16 n 0 (by omega)

theorem waitS_ne {S : St} {c i : Nat} (h : i ≠ 13 + 8 * c + 4) (h2 : i ≠ 13 + 8 * c + 5) : waitS S c i = S i := by
  unfold waitS
  rw [upd_ne _ _ h2, upd_ne _ _ h]
theorem idleS_ne {S : St} {t i : Nat} (h : i < 125 + 8 * t + 2 ∨ 125 + 8 * t + 4 < i) : idleS S t i = S i := by
  unfold idleS
  rw [upd_ne _ _ (by omega), upd_ne _ _ (by omega), upd_ne _ _ (by omega)]
theorem hangS_ne {S : St} {c i : Nat} {a b d e : Int32} (h : i < 13 + 8 * c ∨ 13 + 8 * c + 8 ≤ i) : hangS S c a b d e i = S i := by
  unfold hangS
  rw [waitS_ne (by omega) (by omega), upd_ne _ _ (by omega), upd_ne _ _ (by omega), upd_ne _ _ (by omega), upd_ne _ _ (by omega), upd_ne _ _ (by omega), upd_ne _ _ (by omega)]
theorem standS_ne {S : St} {t i : Nat} {a b : Int32} (h : i < 125 + 8 * t ∨ 125 + 8 * t + 8 ≤ i) : standS S t a b i = S i := by
  unfold standS
  rw [idleS_ne (by omega), upd_ne _ _ (by omega), upd_ne _ _ (by omega), upd_ne _ _ (by omega), upd_ne _ _ (by omega), upd_ne _ _ (by omega)]
set_option maxRecDepth 100000 in
set_option maxHeartbeats 4000000 in
theorem k_hangChair {E : EE} {B : Nat} {S : St} {w : Wo} {nc : Nat} (e7 : S 7 = nI nc) (hm : nc < 14) (sp ri co ch : Int32) (hz : ch = 0 ∨ ch = 1) : Cd E mX1_hangChair (pl E B S w) [.ref B, .int sp, .int ri, .int co, .int ch] (some (.int (nI nc))) (pl E B (hangS (upd S 7 (nI (nc + 1))) nc sp ri co ch) w) := by
  refine Cd.of RX1 rfl (by decide) [some (.ref B), some (.int sp), some (.int ri), some (.int co), some (.int ch), none] (Nat.le_of_ble_eq_true rfl) rfl (fun Γ h f hmn => ?_)
  refine v_aload_n (i := 0) h 0 1 dX1_hangChair_0 rfl rfl ld0 ?_
  refine v_get h 1 4 dX1_hangChair_1 rfl fo_X1_39 pl_ln rfl ?_
  rw [e7]
  refine v_aload_n (i := 0) h 4 5 dX1_hangChair_4 rfl rfl ld0 ?_
  refine v_get h 5 8 dX1_hangChair_5 rfl fo_X1_17 pl_ln rfl ?_
  refine v_alen h 8 9 2 dX1_hangChair_8 rfl pl_cs rfl (v := nI 14) rfl ?_
  refine v_icmp_lt h 9 12 14 dX1_hangChair_9 rfl (by decide) (fun h9 => ?_) (fun h9 => absurd (nI_lt hm (by decide)) h9)
  refine v_aload_n (i := 0) h 14 15 dX1_hangChair_14 rfl rfl ld0 ?_
  refine v_dup h 15 16 dX1_hangChair_15 rfl rfl ?_
  refine v_get h 16 19 dX1_hangChair_16 rfl fo_X1_39 pl_ln rfl ?_
  rw [e7]
  refine v_iconst (v := 1) h 19 20 dX1_hangChair_19 rfl (by decide) ?_
  refine v_iadd h 20 21 dX1_hangChair_20 rfl ?_
  rw [nI_1]
  refine v_putLn h 21 24 7 dX1_hangChair_21 rfl fw_X1_39 rfl (by decide) ?_
  refine v_aload_n (i := 0) h 24 25 dX1_hangChair_24 rfl rfl ld0 ?_
  refine v_aload_n (i := 0) h 25 26 dX1_hangChair_25 rfl rfl ld0 ?_
  refine v_get h 26 29 dX1_hangChair_26 rfl fo_X1_39 pl_ln rfl ?_
  rw [upd_self]
  refine v_iconst (v := 1) h 29 30 dX1_hangChair_29 rfl (by decide) ?_
  refine v_isub h 30 31 dX1_hangChair_30 rfl ?_
  rw [nI_pred]
  refine v_callV1 h 31 34 dX1_hangChair_31 rfl cb_X1_chairAt cv_X1_chairAt pl_ln lk_X1_54 (rok (by decide) (by decide)) ⟨rfl, rfl⟩ ⟨Nat.zero_le _, Nat.zero_le _⟩ (k_chairS (nc := nc + 1) (upd_self _ _ _) (by omega) (by omega)) rfl rfl (Nat.le_of_ble_eq_true rfl) ?_
  refine v_astore (i := 5) h 34 36 dX1_hangChair_34 rfl (by decide) (so5 rfl) ?_
  refine v_aload (i := 5) h 36 38 dX1_hangChair_36 rfl ld5 ?_
  refine v_ifnull h 38 41 dX1_hangChair_38 rfl ?_
  refine v_aload (i := 5) h 41 43 dX1_hangChair_41 rfl ld5 ?_
  refine v_iload_n (i := 1) h 43 44 dX1_hangChair_43 rfl rfl ld1 ?_
  refine v_iload_n (i := 2) h 44 45 dX1_hangChair_44 rfl rfl ld2 ?_
  refine v_iload_n (i := 3) h 45 46 dX1_hangChair_45 rfl rfl ld3 ?_
  refine v_iload (i := 4) h 46 48 dX1_hangChair_46 rfl ld4 ?_
  refine v_callV0 h 48 51 dX1_hangChair_48 rfl cb_X0_hang cv_X0_hang (pl_ch hm) lk_X1_82 (rok (by decide) (by decide)) ⟨rfl, rfl⟩ ⟨Nat.zero_le _, Nat.zero_le _⟩ (k_hang hm sp ri co ch hz) rfl rfl (Nat.le_of_ble_eq_true rfl) ?_
  refine v_aload_n (i := 0) h 51 52 dX1_hangChair_51 rfl rfl ld0 ?_
  refine v_get h 52 55 dX1_hangChair_52 rfl fo_X1_39 pl_ln rfl ?_
  rw [hangS_ne (by omega), upd_self]
  refine v_iconst (v := 1) h 55 56 dX1_hangChair_55 rfl (by decide) ?_
  refine v_isub h 56 57 dX1_hangChair_56 rfl ?_
  rw [nI_pred]
  exact v_iret h 57 f dX1_hangChair_57 rfl (Nat.zero_le _) (Nat.zero_le _) rfl rfl

set_option maxRecDepth 100000 in
set_option maxHeartbeats 4000000 in
theorem k_sendTeam {E : EE} {B : Nat} {S : St} {w : Wo} {nt : Nat} (e8 : S 8 = nI nt) (hm : nt < 4) (sp ti : Int32) : Cd E mX1_sendTeam (pl E B S w) [.ref B, .int sp, .int ti] (some (.int (nI nt))) (pl E B (standS (upd S 8 (nI (nt + 1))) nt sp ti) w) := by
  refine Cd.of RX1 rfl (by decide) [some (.ref B), some (.int sp), some (.int ti), none] (Nat.le_of_ble_eq_true rfl) rfl (fun Γ h f hmn => ?_)
  refine v_aload_n (i := 0) h 0 1 dX1_sendTeam_0 rfl rfl ld0 ?_
  refine v_get h 1 4 dX1_sendTeam_1 rfl fo_X1_42 pl_ln rfl ?_
  rw [e8]
  refine v_aload_n (i := 0) h 4 5 dX1_sendTeam_4 rfl rfl ld0 ?_
  refine v_get h 5 8 dX1_sendTeam_5 rfl fo_X1_24 pl_ln rfl ?_
  refine v_alen h 8 9 3 dX1_sendTeam_8 rfl pl_ts rfl (v := nI 4) rfl ?_
  refine v_icmp_lt h 9 12 14 dX1_sendTeam_9 rfl (by decide) (fun h9 => ?_) (fun h9 => absurd (nI_lt hm (by decide)) h9)
  refine v_aload_n (i := 0) h 14 15 dX1_sendTeam_14 rfl rfl ld0 ?_
  refine v_dup h 15 16 dX1_sendTeam_15 rfl rfl ?_
  refine v_get h 16 19 dX1_sendTeam_16 rfl fo_X1_42 pl_ln rfl ?_
  rw [e8]
  refine v_iconst (v := 1) h 19 20 dX1_sendTeam_19 rfl (by decide) ?_
  refine v_iadd h 20 21 dX1_sendTeam_20 rfl ?_
  rw [nI_1]
  refine v_putLn h 21 24 8 dX1_sendTeam_21 rfl fw_X1_42 rfl (by decide) ?_
  refine v_aload_n (i := 0) h 24 25 dX1_sendTeam_24 rfl rfl ld0 ?_
  refine v_aload_n (i := 0) h 25 26 dX1_sendTeam_25 rfl rfl ld0 ?_
  refine v_get h 26 29 dX1_sendTeam_26 rfl fo_X1_42 pl_ln rfl ?_
  rw [upd_self]
  refine v_iconst (v := 1) h 29 30 dX1_sendTeam_29 rfl (by decide) ?_
  refine v_isub h 30 31 dX1_sendTeam_30 rfl ?_
  rw [nI_pred]
  refine v_callV1 h 31 34 dX1_sendTeam_31 rfl cb_X1_teamAt cv_X1_teamAt pl_ln lk_X1_62 (rok (by decide) (by decide)) ⟨rfl, rfl⟩ ⟨Nat.zero_le _, Nat.zero_le _⟩ (k_teamS (nc := nt + 1) (upd_self _ _ _) (by omega) (by omega)) rfl rfl (Nat.le_of_ble_eq_true rfl) ?_
  refine v_astore_n (i := 3) h 34 35 dX1_sendTeam_34 rfl rfl (by decide) (so3 rfl) ?_
  refine v_aload_n (i := 3) h 35 36 dX1_sendTeam_35 rfl rfl ld3 ?_
  refine v_ifnull h 36 39 dX1_sendTeam_36 rfl ?_
  refine v_aload_n (i := 3) h 39 40 dX1_sendTeam_39 rfl rfl ld3 ?_
  refine v_iload_n (i := 1) h 40 41 dX1_sendTeam_40 rfl rfl ld1 ?_
  refine v_iload_n (i := 2) h 41 42 dX1_sendTeam_41 rfl rfl ld2 ?_
  refine v_callV0 h 42 45 dX1_sendTeam_42 rfl cb_X2_stand cv_X2_stand (pl_tm hm) lk_X1_86 (rok (by decide) (by decide)) ⟨rfl, rfl⟩ ⟨Nat.zero_le _, Nat.zero_le _⟩ (k_stand hm sp ti) rfl rfl (Nat.le_of_ble_eq_true rfl) ?_
  refine v_aload_n (i := 0) h 45 46 dX1_sendTeam_45 rfl rfl ld0 ?_
  refine v_get h 46 49 dX1_sendTeam_46 rfl fo_X1_42 pl_ln rfl ?_
  rw [standS_ne (by omega), upd_self]
  refine v_iconst (v := 1) h 49 50 dX1_sendTeam_49 rfl (by decide) ?_
  refine v_isub h 50 51 dX1_sendTeam_50 rfl ?_
  rw [nI_pred]
  exact v_iret h 51 f dX1_sendTeam_51 rfl (Nat.zero_le _) (Nat.zero_le _) rfl rfl

def hlpB (S : St) (c : Nat) (tn : Int32) (i : Nat) : Bool := decide (¬ nI i = tn ∧ S (125 + 8 * i + 2) = 2 ∧ S (125 + 8 * i + 0) = S (13 + 8 * c + 0))
def hlpN (S : St) (c : Nat) (tn : Int32) : Nat → Bool
  | 0 => false
  | n + 1 => hlpN S c tn n || hlpB S c tn n
def wkM (S : St) (c : Nat) (ti : Int32) : Int32 := 2 + S (13 + 8 * c + 1) * (1 + ti / 5)
def wkS (S : St) (nt c : Nat) (tn ti : Int32) : Int32 := if hlpN S c tn nt = true then (if 1 < wkM S c ti - 1 then wkM S c ti - 1 else 1) else wkM S c ti
theorem hlpN_up {S : St} {c : Nat} {tn : Int32} {i : Nat} (h : hlpB S c tn i = true) : ∀ n, i < n → hlpN S c tn n = true := by
  intro n
  induction n with
  | zero => intro hn; omega
  | succ n ih =>
    intro hn
    unfold hlpN
    by_cases hi : i = n
    · subst hi; rw [h, Bool.or_true]
    · rw [ih (by omega), Bool.true_or]
theorem hlpN_no {S : St} {c : Nat} {tn : Int32} {i : Nat} (h : hlpN S c tn i = false) (h2 : ¬ (¬ nI i = tn ∧ S (125 + 8 * i + 2) = 2 ∧ S (125 + 8 * i + 0) = S (13 + 8 * c + 0))) : hlpN S c tn (i + 1) = false := by
  unfold hlpN
  rw [h, Bool.false_or]
  exact decide_eq_false h2
theorem weak6 {a0 a1 a2 a3 a4 a5 a6 : Option Value} (i : Nat) (v : Value) (h : ([a0, a1, a2, a3, a4, a5, none] : Lo)[i]? = some (some v)) : ([a0, a1, a2, a3, a4, a5, a6] : Lo)[i]? = some (some v) := by
  match i, h with
  | 0, h => exact h
  | 1, h => exact h
  | 2, h => exact h
  | 3, h => exact h
  | 4, h => exact h
  | 5, h => exact h
  | 6, h => cases h
set_option maxRecDepth 100000 in
set_option maxHeartbeats 4000000 in
theorem k_workOf {E : EE} {B : Nat} {S : St} {w : Wo} {c nt : Nat} (hc : c < 14) (e8 : S 8 = nI nt) (hm : nt ≤ 4) (tn ti : Int32) : Cd E mX1_workOf (pl E B S w) [.ref B, .ref (B + 3 + c), .int tn, .int ti] (some (.int (wkS S nt c tn ti))) (pl E B S w) := by
  refine Cd.of RX1 rfl (by decide) [some (.ref B), some (.ref (B + 3 + c)), some (.int tn), some (.int ti), none, none, none] (Nat.le_of_ble_eq_true rfl) rfl (fun Γ h f hmn => ?_)
  refine v_iconst (v := 2) h 0 1 dX1_workOf_0 rfl (by decide) ?_
  refine v_aload_n (i := 1) h 1 2 dX1_workOf_1 rfl rfl ld1 ?_
  refine v_get h 2 5 dX1_workOf_2 rfl fo_X1_159 (pl_ch (by assumption)) rfl ?_
  refine v_iconst (v := 1) h 5 6 dX1_workOf_5 rfl (by decide) ?_
  refine v_iload_n (i := 3) h 6 7 dX1_workOf_6 rfl rfl ld3 ?_
  refine v_iconst (v := 5) h 7 8 dX1_workOf_7 rfl (by decide) ?_
  refine v_idiv h 8 9 dX1_workOf_8 rfl (by decide) ?_
  refine v_iadd h 9 10 dX1_workOf_9 rfl ?_
  refine v_imul h 10 11 dX1_workOf_10 rfl ?_
  refine v_iadd h 11 12 dX1_workOf_11 rfl ?_
  refine v_istore (i := 4) h 12 14 dX1_workOf_12 rfl (by decide) (so4 rfl) ?_
  refine v_iconst (v := 0) h 14 15 dX1_workOf_14 rfl (by decide) ?_
  refine v_istore (i := 5) h 15 17 dX1_workOf_15 rfl (by decide) (so5 rfl) ?_
  have loop17 : ∀ d j, j + d = nt → hlpN S c tn j = false → V E Γ 0 0 17 [some (.ref B), some (.ref (B + 3 + c)), some (.int tn), some (.int ti), some (.int (wkM S c ti)), some (.int (nI j)), none] [] (pl E B S w) := by
    intro d
    induction d with
    | zero =>
      intro j hj gg
      obtain rfl : j = nt := by omega
      refine v_iload (i := 5) h 17 19 dX1_workOf_17 rfl ld5 ?_
      refine v_aload_n (i := 0) h 19 20 dX1_workOf_19 rfl rfl ld0 ?_
      refine v_get h 20 23 dX1_workOf_20 rfl fo_X1_42 pl_ln rfl ?_
      refine v_icmp_ge h 23 26 81 dX1_workOf_23 rfl (by decide) (fun h23 => ?_) (fun h23 => absurd (by rw [e8]; exact nI_le (Nat.le_refl _) (by omega)) h23)
      refine v_iload (i := 4) h 81 83 dX1_workOf_81 rfl ld4 ?_
      exact v_iret h 83 f dX1_workOf_83 rfl (Nat.zero_le _) (Nat.zero_le _) (by unfold wkS; rw [if_neg (by rw [gg]; decide)]) rfl
    | succ d ih =>
      intro j hj gg
      have hj4 : j < 4 := by omega
      refine v_iload (i := 5) h 17 19 dX1_workOf_17 rfl ld5 ?_
      refine v_aload_n (i := 0) h 19 20 dX1_workOf_19 rfl rfl ld0 ?_
      refine v_get h 20 23 dX1_workOf_20 rfl fo_X1_42 pl_ln rfl ?_
      refine v_icmp_ge h 23 26 81 dX1_workOf_23 rfl (by decide) (fun h23 => absurd h23 (by rw [e8]; exact nI_ge (by omega) (by omega))) (fun h23 => ?_)
      refine v_aload_n (i := 0) h 26 27 dX1_workOf_26 rfl rfl ld0 ?_
      refine v_iload (i := 5) h 27 29 dX1_workOf_27 rfl ld5 ?_
      refine v_callV1 h 29 32 dX1_workOf_29 rfl cb_X1_teamAt cv_X1_teamAt pl_ln lk_X1_62 (rok (by decide) (by decide)) ⟨rfl, rfl⟩ ⟨Nat.zero_le _, Nat.zero_le _⟩ (k_teamS e8 hm (c := j) (by omega)) rfl rfl (Nat.le_of_ble_eq_true rfl) ?_
      refine v_astore (i := 6) h 32 34 dX1_workOf_32 rfl (by decide) (so6 rfl) ?_
      refine v_aload (i := 6) h 34 36 dX1_workOf_34 rfl ld6 ?_
      refine v_ifnull h 36 39 dX1_workOf_36 rfl ?_
      refine v_iload (i := 5) h 39 41 dX1_workOf_39 rfl ld5 ?_
      refine v_iload_n (i := 2) h 41 42 dX1_workOf_41 rfl rfl ld2 ?_
      refine v_icmp_eq h 42 45 75 dX1_workOf_42 rfl (by decide) (fun h42 => ?_) (fun h42 => ?_)
      · refine v_iinc (i := 5) h 75 78 dX1_workOf_75 rfl ld5 (by first | exact iinc1 _ | rfl) (by decide) (so5 rfl) ?_
        refine v_goto h 78 17 dX1_workOf_78 (by decide) ?_
        exact V.weak weak6 (ih (j + 1) (by omega) (hlpN_no gg (by first | (intro q; exact absurd q.1 (by simpa using h42)) | (intro q; exact h51 q.2.1) | (intro q; exact h63 q.2.2))))
      · refine v_aload (i := 6) h 45 47 dX1_workOf_45 rfl ld6 ?_
        refine v_get h 47 50 dX1_workOf_47 rfl fo_X1_109 (pl_tm (by assumption)) rfl ?_
        refine v_iconst (v := 2) h 50 51 dX1_workOf_50 rfl (by decide) ?_
        refine v_icmp_ne h 51 54 75 dX1_workOf_51 rfl (by decide) (fun h51 => ?_) (fun h51 => ?_)
        · refine v_iinc (i := 5) h 75 78 dX1_workOf_75 rfl ld5 (by first | exact iinc1 _ | rfl) (by decide) (so5 rfl) ?_
          refine v_goto h 78 17 dX1_workOf_78 (by decide) ?_
          exact V.weak weak6 (ih (j + 1) (by omega) (hlpN_no gg (by first | (intro q; exact absurd q.1 (by simpa using h42)) | (intro q; exact h51 q.2.1) | (intro q; exact h63 q.2.2))))
        · refine v_aload (i := 6) h 54 56 dX1_workOf_54 rfl ld6 ?_
          refine v_get h 56 59 dX1_workOf_56 rfl fo_X1_133 (pl_tm (by assumption)) rfl ?_
          refine v_aload_n (i := 1) h 59 60 dX1_workOf_59 rfl rfl ld1 ?_
          refine v_get h 60 63 dX1_workOf_60 rfl fo_X1_142 (pl_ch (by assumption)) rfl ?_
          refine v_icmp_ne h 63 66 75 dX1_workOf_63 rfl (by decide) (fun h63 => ?_) (fun h63 => ?_)
          · refine v_iinc (i := 5) h 75 78 dX1_workOf_75 rfl ld5 (by first | exact iinc1 _ | rfl) (by decide) (so5 rfl) ?_
            refine v_goto h 78 17 dX1_workOf_78 (by decide) ?_
            exact V.weak weak6 (ih (j + 1) (by omega) (hlpN_no gg (by first | (intro q; exact absurd q.1 (by simpa using h42)) | (intro q; exact h51 q.2.1) | (intro q; exact h63 q.2.2))))
          · refine v_iconst (v := 1) h 66 67 dX1_workOf_66 rfl (by decide) ?_
            refine v_iload (i := 4) h 67 69 dX1_workOf_67 rfl ld4 ?_
            refine v_iconst (v := 1) h 69 70 dX1_workOf_69 rfl (by decide) ?_
            refine v_isub h 70 71 dX1_workOf_70 rfl ?_
            refine v_mmax h 71 74 dX1_workOf_71 rfl lk_X1_69 ⟨Nat.zero_le _, Nat.zero_le _⟩ (by decide) (Nat.le_of_ble_eq_true rfl) ?_
            exact v_iret h 74 f dX1_workOf_74 rfl (Nat.zero_le _) (Nat.zero_le _) (by unfold wkS; rw [if_pos (hlpN_up (i := j) (decide_eq_true ⟨h42, by simpa using h51, by simpa using h63⟩) nt (by omega))]) rfl
  exact loop17 nt 0 (by omega) rfl

def lsub : Lo → Lo → Prop
  | [], _ => True
  | none :: r, _ :: s => lsub r s
  | some v :: r, x :: s => x = some v ∧ lsub r s
  | _ :: _, [] => False
theorem lsub_at : ∀ (L' L : Lo), lsub L' L → ∀ (i : Nat) (v : Value), L'[i]? = some (some v) → L[i]? = some (some v) := by
  intro L'
  induction L' with
  | nil => intro L _ i v h; simp at h
  | cons a r ih =>
    intro L h i v hv
    cases L with
    | nil => cases a <;> exact absurd h id
    | cons x s =>
      cases a with
      | none =>
        cases i with
        | zero => simp at hv
        | succ i => simpa using ih s h i v (by simpa using hv)
      | some y =>
        cases i with
        | zero =>
          simp at hv
          subst hv
          simpa using h.1
        | succ i => simpa using ih s h.2 i v (by simpa using hv)
theorem V.weakS {E : EE} {Γ : Cx} {k n pc : Nat} {L L' : Lo} {st : List Value} {w : Wo} (h : lsub L' L) (kk : V E Γ k n pc L' st w) : V E Γ k n pc L st w := V.weak (lsub_at L' L h) kk
def chs (S : St) (x : Int32) : Nat → Int32 × Int32 × Int32
  | 0 => (-1, 0, 0)
  | c + 1 => if S (13 + 8 * c + 4) = 0 then (if (chs S x c).1 = -1 then (nI c, rkS S c, wayV S x (S (13 + 8 * c + 0))) else if (chs S x c).2.1 < rkS S c then (nI c, rkS S c, wayV S x (S (13 + 8 * c + 0))) else if rkS S c = (chs S x c).2.1 then (if (chs S x c).2.2 ≤ wayV S x (S (13 + 8 * c + 0)) then chs S x c else (nI c, rkS S c, wayV S x (S (13 + 8 * c + 0)))) else chs S x c) else chs S x c
theorem chs_succ (S : St) (x : Int32) (c : Nat) : chs S x (c + 1) = if S (13 + 8 * c + 4) = 0 then (if (chs S x c).1 = -1 then (nI c, rkS S c, wayV S x (S (13 + 8 * c + 0))) else if (chs S x c).2.1 < rkS S c then (nI c, rkS S c, wayV S x (S (13 + 8 * c + 0))) else if rkS S c = (chs S x c).2.1 then (if (chs S x c).2.2 ≤ wayV S x (S (13 + 8 * c + 0)) then chs S x c else (nI c, rkS S c, wayV S x (S (13 + 8 * c + 0)))) else chs S x c) else chs S x c := rfl
set_option maxRecDepth 100000 in
set_option maxHeartbeats 4000000 in
theorem k_choiceFrom {E : EE} {B : Nat} {S : St} {w : Wo} {x : Int32} {nc : Nat} (e7 : S 7 = nI nc) (hm : nc ≤ 14) (hx : InS x) (hs : ∀ c, c < nc → InS (S (13 + 8 * c + 0))) : Cd E mX1_choiceFrom (pl E B S w) [.ref B, .int x] (some (.int (chs S x nc).1)) (pl E B S w) := by
  refine Cd.of RX1 rfl (by decide) [some (.ref B), some (.int x), none, none, none, none, none, none, none] (Nat.le_of_ble_eq_true rfl) rfl (fun Γ h f hmn => ?_)
  refine v_iconst (v := (-1)) h 0 1 dX1_choiceFrom_0 rfl (by decide) ?_
  refine v_istore_n (i := 2) h 1 2 dX1_choiceFrom_1 rfl rfl (by decide) (so2 rfl) ?_
  refine v_iconst (v := 0) h 2 3 dX1_choiceFrom_2 rfl (by decide) ?_
  refine v_istore_n (i := 3) h 3 4 dX1_choiceFrom_3 rfl rfl (by decide) (so3 rfl) ?_
  refine v_iconst (v := 0) h 4 5 dX1_choiceFrom_4 rfl (by decide) ?_
  refine v_istore (i := 4) h 5 7 dX1_choiceFrom_5 rfl (by decide) (so4 rfl) ?_
  refine v_iconst (v := 0) h 7 8 dX1_choiceFrom_7 rfl (by decide) ?_
  refine v_istore (i := 5) h 8 10 dX1_choiceFrom_8 rfl (by decide) (so5 rfl) ?_
  have loop10 : ∀ d j, j + d = nc → V E Γ 0 0 10 [some (.ref B), some (.int x), some (.int (chs S x j).1), some (.int (chs S x j).2.1), some (.int (chs S x j).2.2), some (.int (nI j)), none, none, none] [] (pl E B S w) := by
    intro d
    induction d with
    | zero =>
      intro j hj
      obtain rfl : j = nc := by omega
      refine v_iload (i := 5) h 10 12 dX1_choiceFrom_10 rfl ld5 ?_
      refine v_aload_n (i := 0) h 12 13 dX1_choiceFrom_12 rfl rfl ld0 ?_
      refine v_get h 13 16 dX1_choiceFrom_13 rfl fo_X1_39 pl_ln rfl ?_
      refine v_icmp_ge h 16 19 99 dX1_choiceFrom_16 rfl (by decide) (fun h16 => ?_) (fun h16 => absurd (by rw [e7]; exact nI_le (Nat.le_refl _) (by omega)) h16)
      refine v_iload_n (i := 2) h 99 100 dX1_choiceFrom_99 rfl rfl ld2 ?_
      exact v_iret h 100 f dX1_choiceFrom_100 rfl (Nat.zero_le _) (Nat.zero_le _) rfl rfl
    | succ d ih =>
      intro j hj
      have hj4 : j < 14 := by omega
      refine v_iload (i := 5) h 10 12 dX1_choiceFrom_10 rfl ld5 ?_
      refine v_aload_n (i := 0) h 12 13 dX1_choiceFrom_12 rfl rfl ld0 ?_
      refine v_get h 13 16 dX1_choiceFrom_13 rfl fo_X1_39 pl_ln rfl ?_
      refine v_icmp_ge h 16 19 99 dX1_choiceFrom_16 rfl (by decide) (fun h16 => absurd h16 (by rw [e7]; exact nI_ge (by omega) (by omega))) (fun h16 => ?_)
      refine v_aload_n (i := 0) h 19 20 dX1_choiceFrom_19 rfl rfl ld0 ?_
      refine v_iload (i := 5) h 20 22 dX1_choiceFrom_20 rfl ld5 ?_
      refine v_callV1 h 22 25 dX1_choiceFrom_22 rfl cb_X1_chairAt cv_X1_chairAt pl_ln lk_X1_54 (rok (by decide) (by decide)) ⟨rfl, rfl⟩ ⟨Nat.zero_le _, Nat.zero_le _⟩ (k_chairS e7 hm (c := j) (by omega)) rfl rfl (Nat.le_of_ble_eq_true rfl) ?_
      refine v_astore (i := 6) h 25 27 dX1_choiceFrom_25 rfl (by decide) (so6 rfl) ?_
      refine v_aload (i := 6) h 27 29 dX1_choiceFrom_27 rfl ld6 ?_
      refine v_ifnull h 29 32 dX1_choiceFrom_29 rfl ?_
      refine v_aload (i := 6) h 32 34 dX1_choiceFrom_32 rfl ld6 ?_
      refine v_get h 34 37 dX1_choiceFrom_34 rfl fo_X1_103 (pl_ch (by assumption)) rfl ?_
      refine v_if_ne h 37 40 93 dX1_choiceFrom_37 rfl (by decide) (fun h37 => ?_) (fun h37 => ?_)
      · refine v_iinc (i := 5) h 93 96 dX1_choiceFrom_93 rfl ld5 (by first | exact iinc1 _ | rfl) (by decide) (so5 rfl) ?_
        refine v_goto h 96 10 dX1_choiceFrom_96 (by decide) ?_
        have q := ih (j + 1) (by omega)
        rw [chs_succ, if_neg h37] at q
        exact V.weakS (by simp [lsub]) q
      · refine v_aload (i := 6) h 40 42 dX1_choiceFrom_40 rfl ld6 ?_
        refine v_callV1 h 42 45 dX1_choiceFrom_42 rfl cb_X0_rank cv_X0_rank (pl_ch hj4) lk_X1_162 (rok (by decide) (by decide)) ⟨rfl, rfl⟩ ⟨Nat.zero_le _, Nat.zero_le _⟩ (k_rank hj4) rfl rfl (Nat.le_of_ble_eq_true rfl) ?_
        refine v_istore (i := 7) h 45 47 dX1_choiceFrom_45 rfl (by decide) (so7 rfl) ?_
        refine v_aload_n (i := 0) h 47 48 dX1_choiceFrom_47 rfl rfl ld0 ?_
        refine v_iload_n (i := 1) h 48 49 dX1_choiceFrom_48 rfl rfl ld1 ?_
        refine v_aload (i := 6) h 49 51 dX1_choiceFrom_49 rfl ld6 ?_
        refine v_get h 51 54 dX1_choiceFrom_51 rfl fo_X1_142 (pl_ch (by assumption)) rfl ?_
        refine v_callV1 h 54 57 dX1_choiceFrom_54 rfl cb_X1_wayBetween cv_X1_wayBetween pl_ln lk_X1_143 (rok (by decide) (by decide)) ⟨rfl, rfl⟩ ⟨Nat.zero_le _, Nat.zero_le _⟩ (k_wayBetween hx (hs j (by omega))) rfl rfl (Nat.le_of_ble_eq_true rfl) ?_
        refine v_istore (i := 8) h 57 59 dX1_choiceFrom_57 rfl (by decide) (so8 rfl) ?_
        refine v_iload_n (i := 2) h 59 60 dX1_choiceFrom_59 rfl rfl ld2 ?_
        refine v_iconst (v := (-1)) h 60 61 dX1_choiceFrom_60 rfl (by decide) ?_
        refine v_icmp_eq h 61 64 83 dX1_choiceFrom_61 rfl (by decide) (fun h61 => ?_) (fun h61 => ?_)
        · refine v_iload (i := 5) h 83 85 dX1_choiceFrom_83 rfl ld5 ?_
          refine v_istore_n (i := 2) h 85 86 dX1_choiceFrom_85 rfl rfl (by decide) (so2 rfl) ?_
          refine v_iload (i := 7) h 86 88 dX1_choiceFrom_86 rfl ld7 ?_
          refine v_istore_n (i := 3) h 88 89 dX1_choiceFrom_88 rfl rfl (by decide) (so3 rfl) ?_
          refine v_iload (i := 8) h 89 91 dX1_choiceFrom_89 rfl ld8 ?_
          refine v_istore (i := 4) h 91 93 dX1_choiceFrom_91 rfl (by decide) (so4 rfl) ?_
          refine v_iinc (i := 5) h 93 96 dX1_choiceFrom_93 rfl ld5 (by first | exact iinc1 _ | rfl) (by decide) (so5 rfl) ?_
          refine v_goto h 96 10 dX1_choiceFrom_96 (by decide) ?_
          have q := ih (j + 1) (by omega)
          rw [chs_succ, if_pos h37, if_pos h61] at q
          exact V.weakS (by simp [lsub]) q
        · refine v_iload (i := 7) h 64 66 dX1_choiceFrom_64 rfl ld7 ?_
          refine v_iload_n (i := 3) h 66 67 dX1_choiceFrom_66 rfl rfl ld3 ?_
          refine v_icmp_gt h 67 70 83 dX1_choiceFrom_67 rfl (by decide) (fun h67 => ?_) (fun h67 => ?_)
          · refine v_iload (i := 5) h 83 85 dX1_choiceFrom_83 rfl ld5 ?_
            refine v_istore_n (i := 2) h 85 86 dX1_choiceFrom_85 rfl rfl (by decide) (so2 rfl) ?_
            refine v_iload (i := 7) h 86 88 dX1_choiceFrom_86 rfl ld7 ?_
            refine v_istore_n (i := 3) h 88 89 dX1_choiceFrom_88 rfl rfl (by decide) (so3 rfl) ?_
            refine v_iload (i := 8) h 89 91 dX1_choiceFrom_89 rfl ld8 ?_
            refine v_istore (i := 4) h 91 93 dX1_choiceFrom_91 rfl (by decide) (so4 rfl) ?_
            refine v_iinc (i := 5) h 93 96 dX1_choiceFrom_93 rfl ld5 (by first | exact iinc1 _ | rfl) (by decide) (so5 rfl) ?_
            refine v_goto h 96 10 dX1_choiceFrom_96 (by decide) ?_
            have q := ih (j + 1) (by omega)
            rw [chs_succ, if_pos h37, if_neg h61, if_pos h67] at q
            exact V.weakS (by simp [lsub]) q
          · refine v_iload (i := 7) h 70 72 dX1_choiceFrom_70 rfl ld7 ?_
            refine v_iload_n (i := 3) h 72 73 dX1_choiceFrom_72 rfl rfl ld3 ?_
            refine v_icmp_ne h 73 76 93 dX1_choiceFrom_73 rfl (by decide) (fun h73 => ?_) (fun h73 => ?_)
            · refine v_iinc (i := 5) h 93 96 dX1_choiceFrom_93 rfl ld5 (by first | exact iinc1 _ | rfl) (by decide) (so5 rfl) ?_
              refine v_goto h 96 10 dX1_choiceFrom_96 (by decide) ?_
              have q := ih (j + 1) (by omega)
              rw [chs_succ, if_pos h37, if_neg h61, if_neg h67, if_neg h73] at q
              exact V.weakS (by simp [lsub]) q
            · refine v_iload (i := 8) h 76 78 dX1_choiceFrom_76 rfl ld8 ?_
              refine v_iload (i := 4) h 78 80 dX1_choiceFrom_78 rfl ld4 ?_
              refine v_icmp_ge h 80 83 93 dX1_choiceFrom_80 rfl (by decide) (fun h80 => ?_) (fun h80 => ?_)
              · refine v_iinc (i := 5) h 93 96 dX1_choiceFrom_93 rfl ld5 (by first | exact iinc1 _ | rfl) (by decide) (so5 rfl) ?_
                refine v_goto h 96 10 dX1_choiceFrom_96 (by decide) ?_
                have q := ih (j + 1) (by omega)
                rw [chs_succ, if_pos h37, if_neg h61, if_neg h67, if_pos h73, if_pos h80] at q
                exact V.weakS (by simp [lsub]) q
              · refine v_iload (i := 5) h 83 85 dX1_choiceFrom_83 rfl ld5 ?_
                refine v_istore_n (i := 2) h 85 86 dX1_choiceFrom_85 rfl rfl (by decide) (so2 rfl) ?_
                refine v_iload (i := 7) h 86 88 dX1_choiceFrom_86 rfl ld7 ?_
                refine v_istore_n (i := 3) h 88 89 dX1_choiceFrom_88 rfl rfl (by decide) (so3 rfl) ?_
                refine v_iload (i := 8) h 89 91 dX1_choiceFrom_89 rfl ld8 ?_
                refine v_istore (i := 4) h 91 93 dX1_choiceFrom_91 rfl (by decide) (so4 rfl) ?_
                refine v_iinc (i := 5) h 93 96 dX1_choiceFrom_93 rfl ld5 (by first | exact iinc1 _ | rfl) (by decide) (so5 rfl) ?_
                refine v_goto h 96 10 dX1_choiceFrom_96 (by decide) ?_
                have q := ih (j + 1) (by omega)
                rw [chs_succ, if_pos h37, if_neg h61, if_neg h67, if_pos h73, if_neg h80] at q
                exact V.weakS (by simp [lsub]) q
  exact loop10 nc 0 (by omega)

def cold1 (S : St) (c : Nat) : St := if S (13 + 8 * c + 4) = 2 then S else upd S (13 + 8 * c + 2) (if S (13 + 8 * c + 2) + 1 < 20 then S (13 + 8 * c + 2) + 1 else 20)
def coldS (S : St) : Nat → St
  | 0 => S
  | c + 1 => cold1 (coldS S c) c
theorem cold1_lo {S : St} {c i : Nat} (h : i < 13) : cold1 S c i = S i := by
  unfold cold1
  split
  · rfl
  · rw [upd_ne _ _ (by omega)]
theorem coldS_lo {S : St} {i : Nat} (h : i < 13) : ∀ c, coldS S c i = S i
  | 0 => rfl
  | c + 1 => (cold1_lo h).trans (coldS_lo h c)
set_option maxRecDepth 100000 in
set_option maxHeartbeats 4000000 in
theorem k_growColder {E : EE} {B : Nat} {S : St} {w : Wo} {nc : Nat} (e7 : S 7 = nI nc) (hm : nc ≤ 14) : Cd E mX1_growColder (pl E B S w) [.ref B] (none) (pl E B (coldS S nc) w) := by
  refine Cd.of RX1 rfl (by decide) [some (.ref B), none, none] (Nat.le_of_ble_eq_true rfl) rfl (fun Γ h f hmn => ?_)
  refine v_iconst (v := 0) h 0 1 dX1_growColder_0 rfl (by decide) ?_
  refine v_istore_n (i := 1) h 1 2 dX1_growColder_1 rfl rfl (by decide) (so1 rfl) ?_
  have loop2 : ∀ d j, j + d = nc → V E Γ 0 0 2 [some (.ref B), some (.int (nI j)), none] [] (pl E B (coldS S j) w) := by
    intro d
    induction d with
    | zero =>
      intro j hj
      obtain rfl : j = nc := by omega
      refine v_iload_n (i := 1) h 2 3 dX1_growColder_2 rfl rfl ld1 ?_
      refine v_aload_n (i := 0) h 3 4 dX1_growColder_3 rfl rfl ld0 ?_
      refine v_get h 4 7 dX1_growColder_4 rfl fo_X1_39 pl_ln rfl ?_
      refine v_icmp_ge h 7 10 49 dX1_growColder_7 rfl (by decide) (fun h7 => ?_) (fun h7 => absurd (by rw [coldS_lo (by omega), e7]; exact nI_le (Nat.le_refl _) (by omega)) h7)
      exact v_ret h 49 f dX1_growColder_49 rfl (Nat.zero_le _) (Nat.zero_le _) rfl rfl
    | succ d ih =>
      intro j hj
      have hj4 : j < 14 := by omega
      refine v_iload_n (i := 1) h 2 3 dX1_growColder_2 rfl rfl ld1 ?_
      refine v_aload_n (i := 0) h 3 4 dX1_growColder_3 rfl rfl ld0 ?_
      refine v_get h 4 7 dX1_growColder_4 rfl fo_X1_39 pl_ln rfl ?_
      refine v_icmp_ge h 7 10 49 dX1_growColder_7 rfl (by decide) (fun h7 => absurd h7 (by rw [coldS_lo (by omega), e7]; exact nI_ge (by omega) (by omega))) (fun h7 => ?_)
      refine v_aload_n (i := 0) h 10 11 dX1_growColder_10 rfl rfl ld0 ?_
      refine v_iload_n (i := 1) h 11 12 dX1_growColder_11 rfl rfl ld1 ?_
      refine v_callV1 h 12 15 dX1_growColder_12 rfl cb_X1_chairAt cv_X1_chairAt pl_ln lk_X1_54 (rok (by decide) (by decide)) ⟨rfl, rfl⟩ ⟨Nat.zero_le _, Nat.zero_le _⟩ (k_chairS ((coldS_lo (by omega) j).trans e7) hm (c := j) (by omega)) rfl rfl (Nat.le_of_ble_eq_true rfl) ?_
      refine v_astore_n (i := 2) h 15 16 dX1_growColder_15 rfl rfl (by decide) (so2 rfl) ?_
      refine v_aload_n (i := 2) h 16 17 dX1_growColder_16 rfl rfl ld2 ?_
      refine v_ifnull h 17 20 dX1_growColder_17 rfl ?_
      refine v_aload_n (i := 2) h 20 21 dX1_growColder_20 rfl rfl ld2 ?_
      refine v_get h 21 24 dX1_growColder_21 rfl fo_X1_103 (pl_ch (by assumption)) rfl ?_
      refine v_iconst (v := 2) h 24 25 dX1_growColder_24 rfl (by decide) ?_
      refine v_icmp_eq h 25 28 43 dX1_growColder_25 rfl (by decide) (fun h25 => ?_) (fun h25 => ?_)
      · refine v_iinc (i := 1) h 43 46 dX1_growColder_43 rfl ld1 (by first | exact iinc1 _ | rfl) (by decide) (so1 rfl) ?_
        refine v_goto h 46 2 dX1_growColder_46 (by decide) ?_
        have q := ih (j + 1) (by omega)
        rw [show coldS S (j + 1) = cold1 (coldS S j) j from rfl, cold1, if_pos h25] at q
        exact V.weakS (by simp [lsub]) q
      · refine v_aload_n (i := 2) h 28 29 dX1_growColder_28 rfl rfl ld2 ?_
        refine v_bipush (v := 20) h 29 31 dX1_growColder_29 rfl (by decide) ?_
        refine v_aload_n (i := 2) h 31 32 dX1_growColder_31 rfl rfl ld2 ?_
        refine v_get h 32 35 dX1_growColder_32 rfl fo_X1_106 (pl_ch (by assumption)) rfl ?_
        refine v_iconst (v := 1) h 35 36 dX1_growColder_35 rfl (by decide) ?_
        refine v_iadd h 36 37 dX1_growColder_36 rfl ?_
        refine v_mmin h 37 40 dX1_growColder_37 rfl lk_X1_75 ⟨Nat.zero_le _, Nat.zero_le _⟩ (by decide) (Nat.le_of_ble_eq_true rfl) ?_
        refine v_putCh h 40 43 dX1_growColder_40 rfl fw_X1_106 (by assumption) (by decide) ?_
        refine v_iinc (i := 1) h 43 46 dX1_growColder_43 rfl ld1 (by first | exact iinc1 _ | rfl) (by decide) (so1 rfl) ?_
        refine v_goto h 46 2 dX1_growColder_46 (by decide) ?_
        have q := ih (j + 1) (by omega)
        rw [show coldS S (j + 1) = cold1 (coldS S j) j from rfl, cold1, if_neg h25] at q
        exact V.weakS (by simp [lsub]) q
  exact loop2 nc 0 (by omega)

def bringS (S : St) (nt t c : Nat) (tn : Int32) : St := upd (upd (upd S (125 + 8 * t + 0) (S (13 + 8 * c + 0))) (125 + 8 * t + 3) (wkS (upd S (125 + 8 * t + 0) (S (13 + 8 * c + 0))) nt c tn (upd S (125 + 8 * t + 0) (S (13 + 8 * c + 0)) (125 + 8 * t + 1)))) (125 + 8 * t + 2) 2
set_option maxRecDepth 100000 in
set_option maxHeartbeats 4000000 in
theorem k_bringDown {E : EE} {B : Nat} {S : St} {w : Wo} {nt t c : Nat} (e8 : S 8 = nI nt) (hm : nt ≤ 4) (ht : t < 4) (hc : c < 14) (tn : Int32) : Cd E mX1_bringDown (pl E B S w) [.ref B, .int tn, .ref (B + 18 + t), .ref (B + 3 + c)] (none) (pl E B (bringS S nt t c tn) w) := by
  refine Cd.of RX1 rfl (by decide) [some (.ref B), some (.int tn), some (.ref (B + 18 + t)), some (.ref (B + 3 + c))] (Nat.le_of_ble_eq_true rfl) rfl (fun Γ h f hmn => ?_)
  refine v_aload_n (i := 2) h 0 1 dX1_bringDown_0 rfl rfl ld2 ?_
  refine v_aload_n (i := 3) h 1 2 dX1_bringDown_1 rfl rfl ld3 ?_
  refine v_get h 2 5 dX1_bringDown_2 rfl fo_X1_142 (pl_ch (by assumption)) rfl ?_
  refine v_putTm h 5 8 dX1_bringDown_5 rfl fw_X1_133 (by assumption) (by decide) ?_
  refine v_aload_n (i := 2) h 8 9 dX1_bringDown_8 rfl rfl ld2 ?_
  refine v_aload_n (i := 0) h 9 10 dX1_bringDown_9 rfl rfl ld0 ?_
  refine v_aload_n (i := 3) h 10 11 dX1_bringDown_10 rfl rfl ld3 ?_
  refine v_iload_n (i := 1) h 11 12 dX1_bringDown_11 rfl rfl ld1 ?_
  refine v_aload_n (i := 2) h 12 13 dX1_bringDown_12 rfl rfl ld2 ?_
  refine v_get h 13 16 dX1_bringDown_13 rfl fo_X1_119 (pl_tm (by assumption)) rfl ?_
  refine v_callV1 h 16 19 dX1_bringDown_16 rfl cb_X1_workOf cv_X1_workOf pl_ln lk_X1_146 (rok (by decide) (by decide)) ⟨rfl, rfl⟩ ⟨Nat.zero_le _, Nat.zero_le _⟩ (k_workOf hc ((upd_ne _ _ (by omega)).trans e8) hm tn _) rfl rfl (Nat.le_of_ble_eq_true rfl) ?_
  refine v_putTm h 19 22 dX1_bringDown_19 rfl fw_X1_113 (by assumption) (by decide) ?_
  refine v_aload_n (i := 2) h 22 23 dX1_bringDown_22 rfl rfl ld2 ?_
  refine v_iconst (v := 2) h 23 24 dX1_bringDown_23 rfl (by decide) ?_
  refine v_putTm h 24 27 dX1_bringDown_24 rfl fw_X1_109 (by assumption) (by decide) ?_
  exact v_ret h 27 f dX1_bringDown_27 rfl (Nat.zero_le _) (Nat.zero_le _) rfl rfl
