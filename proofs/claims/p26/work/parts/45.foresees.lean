/-! WHAT THE LAW FORESEES, on rows of its own -/
theorem zinv {a b : St} {sp nc nt ne m : Nat} (h : Ag nc nt 0 a b) (hI : Inv b sp nc nt ne m) : Inv a sp nc nt ne m := by
  have h14 := hI.n14
  have h4 := hI.n4
  refine ⟨hdI_eq (fun i hi _ _ => h i (Or.inl hi)) hI.1, by rw [cntE_eq nc (fun d hd => h _ (by unfold liveQ; omega))]; exact hI.2.1, fun d hd => ?_, fun t ht => ?_⟩
  · exact chI_eq (h _ (by unfold liveQ; omega)) (h _ (by unfold liveQ; omega)) (h _ (by unfold liveQ; omega)) (h _ (by unfold liveQ; omega)) (h _ (by unfold liveQ; omega)) (hI.2.2.1 d hd)
  · exact tmI_eq (h _ (by unfold liveQ; omega)) (h _ (by unfold liveQ; omega)) (h _ (by unfold liveQ; omega)) (h _ (by unfold liveQ; omega)) (fun d hd p q => by rw [h _ (by unfold liveQ; omega), h _ (by unfold liveQ; omega)]; exact ⟨p, q⟩) (hI.2.2.2 t ht)
section R45
variable {E : EE} {Γ : Cx} {M : MI} {own : String} {k n : Nat} {L : Lo} {st : List Value} {w : Wo} {B : Nat} {R : St}
theorem v_stEr (h : OkB E Γ M own) (pc q : Nat) (i : Nat) {x : Int32} (hd : decode (mC M) pc = .ok (.iastore, 1)) (hq : pc + 1 = q) (hi : i < 64) (kk : V E Γ k n q L st (lw E B (upd R (13 + i) x) w)) : V E Γ k n pc L (.int x :: .int (nI i) :: .ref (B + 1) :: st) (lw E B R w) := by
  refine v_iast h pc q hd hq lw_e (vp_in_nI (n := i) (by omega) (by decide)) ?_
  rw [nI_clamp (by omega), lw_we (by omega)]
  exact kk
theorem v_stQr (h : OkB E Γ M own) (pc q : Nat) (i : Nat) {x : Int32} (hd : decode (mC M) pc = .ok (.iastore, 1)) (hq : pc + 1 = q) (hi : i < 32) (kk : V E Γ k n q L st (lw E B (upd R (125 + i) x) w)) : V E Γ k n pc L (.int x :: .int (nI i) :: .ref (B + 2) :: st) (lw E B R w) := by
  refine v_iast h pc q hd hq lw_q (vp_in_nI (n := i) (by omega) (by decide)) ?_
  rw [nI_clamp (by omega), lw_wq (by omega)]
  exact kk
end R45
theorem gd_z {n : Nat} : gd n (fun _ => 0) = fun _ => 0 := by
  funext k
  show (if k < n then (0 : Int32) else 0) = 0
  rw [ite_self]
theorem new4 {E : EE} {W : Wo} : wnew (wnew (wnew (wnew W (.inl (gI E, 13, .inl (fun _ => 0)))) (.inl (gI E, 64, .inl (fun _ => 0)))) (.inl (gI E, 32, .inl (fun _ => 0)))) (.inl (gI E, 14, .inl (fun _ => 0))) = lw E W.1 (fun _ => 0) (W.1 + 4, W.2) := by
  refine lw_ext rfl (fun a h => ?_) (fun o ho => ?_)
  · show (if a = W.1 + 1 + 1 + 1 then _ else if a = W.1 + 1 + 1 then _ else if a = W.1 + 1 then _ else if a = W.1 then _ else W.2 a) = W.2 a
    rw [if_neg (by omega), if_neg (by omega), if_neg (by omega), if_neg (by omega)]
  · show (if W.1 + o = W.1 + 1 + 1 + 1 then _ else if W.1 + o = W.1 + 1 + 1 then _ else if W.1 + o = W.1 + 1 then _ else if W.1 + o = W.1 then _ else W.2 (W.1 + o)) = _
    refine four (P := fun o => (if W.1 + o = W.1 + 1 + 1 + 1 then some (.inl (gI E, 14, .inl (fun _ => 0))) else if W.1 + o = W.1 + 1 + 1 then some (.inl (gI E, 32, .inl (fun _ => 0))) else if W.1 + o = W.1 + 1 then some (.inl (gI E, 64, .inl (fun _ => 0))) else if W.1 + o = W.1 then some (.inl (gI E, 13, .inl (fun _ => 0))) else W.2 (W.1 + o)) = some (lwC E (fun _ => 0) o)) ?_ ?_ ?_ ?_ o ho
    · rw [if_neg (by omega), if_neg (by omega), if_neg (by omega), if_pos (show W.1 + 0 = W.1 from rfl), lwC, if_pos rfl, gd_z]
    · rw [if_neg (by omega), if_neg (by omega), if_pos rfl, lwC, if_neg (by omega), if_pos rfl, gd_z]
    · rw [if_neg (by omega), if_pos rfl, lwC, if_neg (by omega), if_neg (by omega), if_pos rfl, gd_z]
    · rw [if_pos rfl, lwC, if_neg (by omega), if_neg (by omega), if_neg (by omega), gd_z]
/-- the copy, as far as it has come -/
def cpy (R : St) : Nat → St
  | 0 => fun _ => 0
  | k + 1 => upd (upd (upd (cpy R k) (13 + k) (R (13 + k))) (125 + k % 32) (R (125 + k % 32))) (k % 13) (R (k % 13))
theorem cpy_s (R : St) (k : Nat) : cpy R (k + 1) = upd (upd (upd (cpy R k) (13 + k) (R (13 + k))) (125 + k % 32) (R (125 + k % 32))) (k % 13) (R (k % 13)) := rfl
theorem cpy_is {R : St} {i : Nat} : ∀ k, k ≤ 64 → ((i < 13 ∧ i < k) ∨ (13 ≤ i ∧ i < 77 ∧ i < 13 + k) ∨ (125 ≤ i ∧ i < 157 ∧ i < 125 + k)) → cpy R k i = R i := by
  intro k
  induction k with
  | zero => intro _ h; omega
  | succ k ih =>
    intro hk h
    rw [cpy_s]
    by_cases h1 : i = k % 13
    · rw [h1, upd_self]
    · rw [upd_ne _ _ h1]
      by_cases h2 : i = 125 + k % 32
      · rw [h2, upd_self]
      · rw [upd_ne _ _ h2]
        by_cases h3 : i = 13 + k
        · rw [h3, upd_self]
        · rw [upd_ne _ _ h3]
          exact ih (by omega) (by omega)
theorem cpy_ag {R : St} {nc nt : Nat} (h8 : nc ≤ 8) (h4 : nt ≤ 4) : Ag nc nt 0 (cpy R 64) R := fun i hi => cpy_is 64 (Nat.le_refl _) (by unfold liveQ at hi; omega)
theorem j2_cpy {R : St} {nc nt : Nat} (h8 : nc ≤ 8) (h4 : nt ≤ 4) (h : J2 R nc nt) : J2 (cpy R 64) nc nt := h.eq (fun c hc => ⟨Or.inl (cpy_is 64 (Nat.le_refl _) (by omega)), Or.inl (cpy_is 64 (Nat.le_refl _) (by omega))⟩) (fun t ht => Or.inl ⟨cpy_is 64 (Nat.le_refl _) (by omega), cpy_is 64 (Nat.le_refl _) (by omega)⟩)
theorem wup_in {E : EE} {n B T : Nat} {X R : St} {w : Wo} {a b : va_E} (h1 : T < n ∨ n + 4 ≤ T) (h2 : T < B ∨ B + 4 ≤ T) : wup (lw E n X (n + 4, (lw E B R (wup w T a)).2)) T b = lw E n X (n + 4, (lw E B R (wup w T b)).2) := by
  refine lw_ext rfl (fun c hc => ?_) (fun o ho => ?_)
  · show (if c = T then some b else (lw E n X (n + 4, (lw E B R (wup w T a)).2)).2 c) = (lw E B R (wup w T b)).2 c
    by_cases e : c = T
    · rw [if_pos e, e, lw_out h2]
      exact (if_pos rfl).symm
    · rw [if_neg e, lw_out hc]
      show (lw E B R (wup w T a)).2 c = (lw E B R (wup w T b)).2 c
      by_cases hB : c < B ∨ B + 4 ≤ c
      · rw [lw_out hB, lw_out hB]
        show (if c = T then some a else w.2 c) = if c = T then some b else w.2 c
        rw [if_neg e, if_neg e]
      · obtain ⟨o, rfl⟩ : ∃ o, c = B + o := ⟨c - B, by omega⟩
        rw [lw_at o (by omega), lw_at o (by omega)]
  · show (if n + o = T then some b else (lw E n X (n + 4, (lw E B R (wup w T a)).2)).2 (n + o)) = _
    rw [if_neg (by omega), lw_at o ho]
theorem cpA_0 {f g : St} : cpA f g 0 = f := by
  funext k
  show (if k < 0 then g k else f k) = f k
  rw [if_neg (by omega)]
set_option maxRecDepth 100000 in
set_option maxHeartbeats 4000000 in
theorem k_foresees {E : EE} {B T : Nat} {R g0 : St} {w : Wo} {sp nc nt ne m : Nat} (hI : Inv R sp nc nt ne m) (hJ : J2 R nc nt) (h8 : nc ≤ 8) (hm : m < 2 ^ 30 - 5000) (hT : w.2 T = some (.inl (gI E, 8, .inl g0))) (hTB : T < B ∨ B + 4 ≤ T) : Cd E mL_foresees (lw E B R w) [.ref B, .ref (B + 1), .ref (B + 2), .ref T] (some (.int (outI (runS nc nt 1000 (cpy R 64) m)))) (lw E B R (w.1 + 4, (wup w T (.inl (gI E, 8, .inl (cpA g0 (fun c => (runS nc nt 1000 (cpy R 64) m).1 (13 + 8 * c + 6)) nc)))).2)) := by
  refine Cd.ofN RL rfl (by decide) [some (.ref B), some (.ref (B + 1)), some (.ref (B + 2)), some (.ref T), none, none, none, none, none, none] (Nat.le_of_ble_eq_true rfl) rfl (fun hNn Γ h f hmn => ?_)
  have hnt := hI.n4
  have hBn : B + 4 ≤ w.1 := by
    rcases Nat.lt_or_ge (B + 3) w.1 with q | q
    · omega
    · have := hNn (B + 3) q
      rw [lw_j] at this
      exact absurd this (by simp)
  have hTn : T < w.1 := by
    rcases Nat.lt_or_ge T w.1 with q | q
    · exact q
    · have := hNn T q
      rw [lw_out hTB, hT] at this
      exact absurd this (by simp)
  have hC : Inv (cpy R 64) sp nc nt ne m := zinv (cpy_ag h8 hnt) hI
  have hCJ : J2 (cpy R 64) nc nt := j2_cpy h8 hnt hJ
  obtain ⟨R0, hR0⟩ : ∃ z, z = runS nc nt 1000 (cpy R 64) m := ⟨_, rfl⟩
  obtain ⟨fm, hfm⟩ : ∃ z : St, z = fun c => R0.1 (13 + 8 * c + 6) := ⟨_, rfl⟩
  rw [← hR0, ← hfm] at f
  have hRe : ∀ X : St, (lw E w.1 X (w.1 + 4, (lw E B R w).2)).2 (B + 1) = some (.inl (gI E, 64, .inl (gd 64 (fun k => R (13 + k))))) := fun X => (lw_out (by omega)).trans lw_e
  have hRq : ∀ X : St, (lw E w.1 X (w.1 + 4, (lw E B R w).2)).2 (B + 2) = some (.inl (gI E, 32, .inl (gd 32 (fun k => R (125 + k))))) := fun X => (lw_out (by omega)).trans lw_q
  have hRg : ∀ X : St, (lw E w.1 X (w.1 + 4, (lw E B R w).2)).2 B = some (.inl (gI E, 13, .inl (gd 13 R))) := fun X => (lw_out (by omega)).trans lw_g
  have hFg : ∀ j : Nat, (lw E w.1 R0.1 (w.1 + 4, (lw E B R (wup w T (.inl (gI E, 8, .inl (cpA g0 fm j))))).2)).2 B = some (.inl (gI E, 13, .inl (gd 13 R))) := fun j => (lw_out (by omega)).trans lw_g
  have hFt : ∀ j : Nat, (lw E w.1 R0.1 (w.1 + 4, (lw E B R (wup w T (.inl (gI E, 8, .inl (cpA g0 fm j))))).2)).2 T = some (.inl (gI E, 8, .inl (cpA g0 fm j))) := fun j => (lw_out (by omega)).trans ((lw_out hTB).trans (if_pos rfl))
  have hFn : ∀ a, w.1 ≤ a → (lw E B R (w.1 + 4, (wup w T (.inl (gI E, 8, .inl (cpA g0 fm nc)))).2)).2 a = none := by
    intro a ha
    have := hNn a ha
    rw [lw_out (by omega)] at this ⊢
    show (if a = T then _ else w.2 a) = none
    rw [if_neg (by omega)]
    exact this
  have k120 : ∀ ne' m', Inv R0.1 sp nc nt ne' m' → V E Γ 4 123 120 [some (.ref B), some (.ref (B + 1)), some (.ref (B + 2)), some (.ref T), some (.ref w.1), some (.ref (w.1 + 1)), some (.ref (w.1 + 2)), some (.ref (w.1 + 3)), some (.int (nI R0.2)), none] [] (lw E w.1 (R0.1) (w.1 + 4, (lw E B R w).2)) := by
    intro ne' m' hF
    have loop123 : ∀ d j, j + d = nc → V E Γ 4 123 123 [some (.ref B), some (.ref (B + 1)), some (.ref (B + 2)), some (.ref T), some (.ref w.1), some (.ref (w.1 + 1)), some (.ref (w.1 + 2)), some (.ref (w.1 + 3)), some (.int (nI R0.2)), some (.int (nI j))] [] (lw E w.1 (R0.1) (w.1 + 4, (lw E B R (wup w T (.inl (gI E, 8, .inl (cpA g0 fm j))))).2)) := by
      intro d
      induction d with
      | zero =>
        intro j hj
        obtain rfl : nc = j := by omega
        refine v_iload (i := 9) h 123 125 dL_foresees_123 rfl ld9 ?_
        refine v_aload_n (i := 0) h 125 126 dL_foresees_125 rfl rfl ld0 ?_
        refine v_bipush (v := nI 7) h 126 128 dL_foresees_126 rfl (by decide) ?_
        refine v_iald h 128 129 dL_foresees_128 rfl (hFg _) (vp_in_nI (n := 7) (by omega) (by decide)) ?_
        rw [nI_clamp (by omega), gd_at (by omega), hI.c7]
        refine v_icmp_ge h 129 132 153 dL_foresees_129 rfl (by decide) (fun h129 => ?_) (fun h129 => absurd (nI_le (a := nc) (b := nc) (by omega) (by omega)) h129)
        refine v_aload (i := 4) h 153 155 dL_foresees_153 rfl ld4 ?_
        refine v_bipush (v := nI 12) h 155 157 dL_foresees_155 rfl (by decide) ?_
        refine v_ldG h 157 158 12 dL_foresees_157 rfl (by omega) ?_
        refine v_aload (i := 4) h 158 160 dL_foresees_158 rfl ld4 ?_
        refine v_bipush (v := nI 7) h 160 162 dL_foresees_160 rfl (by decide) ?_
        refine v_ldG h 162 163 7 dL_foresees_162 rfl (by omega) ?_
        refine v_icmp_ge h 163 166 170 dL_foresees_163 rfl (by decide) (fun h163 => ?_) (fun h163 => ?_)
        · refine v_iload (i := 8) h 170 172 dL_foresees_170 rfl ld8 ?_
          refine V.less (w' := lw E B R (w.1 + 4, (wup w T (.inl (gI E, 8, .inl (cpA g0 fm nc)))).2)) rfl (fun a x hx => ?_) ?_
          · rw [lw_out (by
              rcases Nat.lt_or_ge a w.1 with q | q
              · exact Or.inl q
              · exact absurd (hx.symm.trans (hFn a q)) (by simp))]
            exact hx
          · exact v_iret h 172 f dL_foresees_172 rfl (by decide) (by decide) (by rw [outI, if_pos h163]) rfl
        · refine v_iconst (v := (-1)) h 166 167 dL_foresees_166 rfl (by decide) ?_
          refine v_goto h 167 172 dL_foresees_167 (by decide) ?_
          refine V.less (w' := lw E B R (w.1 + 4, (wup w T (.inl (gI E, 8, .inl (cpA g0 fm nc)))).2)) rfl (fun a x hx => ?_) ?_
          · rw [lw_out (by
              rcases Nat.lt_or_ge a w.1 with q | q
              · exact Or.inl q
              · exact absurd (hx.symm.trans (hFn a q)) (by simp))]
            exact hx
          · exact v_iret h 172 f dL_foresees_172 rfl (by decide) (by decide) (by rw [outI, if_neg h163]) rfl
      | succ d ih =>
        intro j hj
        refine v_iload (i := 9) h 123 125 dL_foresees_123 rfl ld9 ?_
        refine v_aload_n (i := 0) h 125 126 dL_foresees_125 rfl rfl ld0 ?_
        refine v_bipush (v := nI 7) h 126 128 dL_foresees_126 rfl (by decide) ?_
        refine v_iald h 128 129 dL_foresees_128 rfl (hFg _) (vp_in_nI (n := 7) (by omega) (by decide)) ?_
        rw [nI_clamp (by omega), gd_at (by omega), hI.c7]
        refine v_icmp_ge h 129 132 153 dL_foresees_129 rfl (by decide) (fun h129 => absurd h129 (nI_ge (a := j) (b := nc) (by omega) (by omega))) (fun h129 => ?_)
        refine v_aload_n (i := 3) h 132 133 dL_foresees_132 rfl rfl ld3 ?_
        refine v_iload (i := 9) h 133 135 dL_foresees_133 rfl ld9 ?_
        refine v_aload (i := 5) h 135 137 dL_foresees_135 rfl ld5 ?_
        refine v_bipush (v := nI 8) h 137 139 dL_foresees_137 rfl (by decide) ?_
        refine v_iload (i := 9) h 139 141 dL_foresees_139 rfl ld9 ?_
        refine v_imulN h 141 142 dL_foresees_141 rfl ?_
        refine v_bipush (v := nI 6) h 142 144 dL_foresees_142 rfl (by decide) ?_
        refine v_iaddN h 144 145 dL_foresees_144 rfl ?_
        refine v_ldE h 145 146 j 6 dL_foresees_145 rfl (by omega) (by omega) ?_
        rw [show R0.1 (13 + 8 * j + 6) = fm j by rw [hfm]]
        refine v_iast h 146 147 dL_foresees_146 rfl (hFt _) (vp_in_nI (n := j) (by omega) (by decide)) ?_
        rw [nI_clamp (by omega), wup_in (Or.inl hTn) hTB]
        refine v_iinc (i := 9) h 147 150 dL_foresees_147 rfl ld9 (by first | exact iinc1 _ | rfl) (by decide) (so9 rfl) ?_
        refine v_goto h 150 123 dL_foresees_150 (by decide) ?_
        have q := ih (j + 1) (by omega)
        rw [← cpA_s] at q
        exact V.weakT q (And.intro rfl (And.intro rfl (And.intro rfl (And.intro rfl (And.intro rfl (And.intro rfl (And.intro rfl (And.intro rfl (And.intro rfl (And.intro rfl trivial))))))))))
    refine v_iconst (v := 0) h 120 121 dL_foresees_120 rfl (by decide) ?_
    refine v_istore (i := 9) h 121 123 dL_foresees_121 rfl (by decide) (so9 rfl) ?_
    refine V.world (w' := lw E w.1 (R0.1) (w.1 + 4, (lw E B R (wup w T (.inl (gI E, 8, .inl (cpA g0 fm 0))))).2)) (by rw [cpA_0, wup_same hT]) ?_
    exact V.weakT (loop123 nc 0 (by omega)) (And.intro rfl (And.intro rfl (And.intro rfl (And.intro rfl (And.intro rfl (And.intro rfl (And.intro rfl (And.intro rfl (And.intro rfl (And.intro rfl trivial))))))))))
  have loop82 : ∀ (d : Nat) (X : St) (ne' m' j : Nat), j + d = 1000 → m' ≤ m + j → Inv X sp nc nt ne' m' → J2 X nc nt → (runS nc nt d X m').1 = R0.1 → j + (runS nc nt d X m').2 = R0.2 → V E Γ 4 123 82 [some (.ref B), some (.ref (B + 1)), some (.ref (B + 2)), some (.ref T), some (.ref w.1), some (.ref (w.1 + 1)), some (.ref (w.1 + 2)), some (.ref (w.1 + 3)), some (.int (nI j)), none] [] (lw E w.1 X (w.1 + 4, (lw E B R w).2)) := by
    intro d
    induction d with
    | zero =>
      intro X ne' m' j hj hm' hX hXJ r1 r2
      rw [show (runS nc nt 0 X m').1 = X from rfl] at r1
      rw [show (runS nc nt 0 X m').2 = 0 from rfl] at r2
      refine v_iload (i := 8) h 82 84 dL_foresees_82 rfl ld8 ?_
      refine v_sipush (v := nI 1000) h 84 87 dL_foresees_84 rfl (by decide) ?_
      refine v_icmp_ge h 87 90 120 dL_foresees_87 rfl (by decide) (fun h87 => ?_) (fun h87 => absurd (nI_le (a := 1000) (b := j) (by omega) (by omega)) h87)
      have q := k120 ne' m' (by rw [← r1]; exact hX)
      rw [← r1, ← r2] at q
      exact q
    | succ d ih =>
      intro X ne' m' j hj hm' hX hXJ r1 r2
      unfold runS at r1 r2
      refine v_iload (i := 8) h 82 84 dL_foresees_82 rfl ld8 ?_
      refine v_sipush (v := nI 1000) h 84 87 dL_foresees_84 rfl (by decide) ?_
      refine v_icmp_ge h 87 90 120 dL_foresees_87 rfl (by decide) (fun h87 => absurd h87 (nI_ge (a := j) (b := 1000) (by omega) (by omega))) (fun h87 => ?_)
      refine v_aload (i := 4) h 90 92 dL_foresees_90 rfl ld4 ?_
      refine v_bipush (v := nI 12) h 92 94 dL_foresees_92 rfl (by decide) ?_
      refine v_ldG h 94 95 12 dL_foresees_94 rfl (by omega) ?_
      refine v_aload (i := 4) h 95 97 dL_foresees_95 rfl ld4 ?_
      refine v_bipush (v := nI 7) h 97 99 dL_foresees_97 rfl (by decide) ?_
      refine v_ldG h 99 100 7 dL_foresees_99 rfl (by omega) ?_
      refine v_icmp_ge h 100 103 120 dL_foresees_100 rfl (by decide) (fun h100 => ?_) (fun h100 => ?_)
      · rw [if_pos h100] at r1 r2
        have q := k120 ne' m' (by rw [← r1]; exact hX)
        rw [← r1, ← r2] at q
        exact q
      · refine v_aload (i := 4) h 103 105 dL_foresees_103 rfl ld4 ?_
        refine v_aload (i := 5) h 105 107 dL_foresees_105 rfl ld5 ?_
        refine v_aload (i := 6) h 107 109 dL_foresees_107 rfl ld6 ?_
        refine v_aload (i := 7) h 109 111 dL_foresees_109 rfl ld7 ?_
        refine v_callS0 h 111 114 dL_foresees_111 rfl cb_L_minute cs_L_minute lk_L_48 (rok (by decide) (by decide)) ⟨rfl, rfl⟩ ⟨by decide, by decide⟩ (k_minute hX hXJ h8 (by omega)) rfl rfl (Nat.le_of_ble_eq_true rfl) ?_
        refine v_iinc (i := 8) h 114 117 dL_foresees_114 rfl ld8 (by first | exact iinc1 _ | rfl) (by decide) (so8 rfl) ?_
        refine v_goto h 117 82 dL_foresees_117 (by decide) ?_
        rw [if_neg h100] at r1 r2
        obtain ⟨ne2, hX2⟩ := inv_min hX
        exact V.weakT (ih _ ne2 (m' + 1) (j + 1) (by omega) (by omega) hX2 (hXJ.min hX (by omega)) r1 (by omega)) (And.intro rfl (And.intro rfl (And.intro rfl (And.intro rfl (And.intro rfl (And.intro rfl (And.intro rfl (And.intro rfl (And.intro rfl trivial)))))))))
  have loop27 : ∀ d j, j + d = 64 → V E Γ 4 123 27 [some (.ref B), some (.ref (B + 1)), some (.ref (B + 2)), some (.ref T), some (.ref w.1), some (.ref (w.1 + 1)), some (.ref (w.1 + 2)), some (.ref (w.1 + 3)), some (.int (nI j)), none] [] (lw E w.1 (cpy R j) (w.1 + 4, (lw E B R w).2)) := by
    intro d
    induction d with
    | zero =>
      intro j hj
      obtain rfl : j = 64 := by omega
      refine v_iload (i := 8) h 27 29 dL_foresees_27 rfl ld8 ?_
      refine v_bipush (v := nI 64) h 29 31 dL_foresees_29 rfl (by decide) ?_
      refine v_icmp_ge h 31 34 79 dL_foresees_31 rfl (by decide) (fun h31 => ?_) (fun h31 => absurd (nI_le (a := 64) (b := 64) (by omega) (by omega)) h31)
      refine v_iconst (v := 0) h 79 80 dL_foresees_79 rfl (by decide) ?_
      refine v_istore (i := 8) h 80 82 dL_foresees_80 rfl (by decide) (so8 rfl) ?_
      exact V.weakT (loop82 1000 (cpy R 64) ne m 0 (by omega) (by omega) hC hCJ (by rw [hR0]) (by rw [hR0]; omega)) (And.intro rfl (And.intro rfl (And.intro rfl (And.intro rfl (And.intro rfl (And.intro rfl (And.intro rfl (And.intro rfl (And.intro rfl trivial)))))))))
    | succ d ih =>
      intro j hj
      refine v_iload (i := 8) h 27 29 dL_foresees_27 rfl ld8 ?_
      refine v_bipush (v := nI 64) h 29 31 dL_foresees_29 rfl (by decide) ?_
      refine v_icmp_ge h 31 34 79 dL_foresees_31 rfl (by decide) (fun h31 => absurd h31 (nI_ge (a := j) (b := 64) (by omega) (by omega))) (fun h31 => ?_)
      refine v_aload (i := 5) h 34 36 dL_foresees_34 rfl ld5 ?_
      refine v_iload (i := 8) h 36 38 dL_foresees_36 rfl ld8 ?_
      refine v_aload_n (i := 1) h 38 39 dL_foresees_38 rfl rfl ld1 ?_
      refine v_iload (i := 8) h 39 41 dL_foresees_39 rfl ld8 ?_
      refine v_iald h 41 42 dL_foresees_41 rfl (hRe _) (vp_in_nI (n := j) (by omega) (by decide)) ?_
      rw [nI_clamp (by omega), gd_at (by omega)]
      refine v_stEr h 42 43 j dL_foresees_42 rfl (by omega) ?_
      refine v_aload (i := 6) h 43 45 dL_foresees_43 rfl ld6 ?_
      refine v_iload (i := 8) h 45 47 dL_foresees_45 rfl ld8 ?_
      refine v_bipush (v := nI 32) h 47 49 dL_foresees_47 rfl (by decide) ?_
      refine v_iremN h 49 50 dL_foresees_49 rfl (by omega) (by omega) (by omega) ?_
      refine v_aload_n (i := 2) h 50 51 dL_foresees_50 rfl rfl ld2 ?_
      refine v_iload (i := 8) h 51 53 dL_foresees_51 rfl ld8 ?_
      refine v_bipush (v := nI 32) h 53 55 dL_foresees_53 rfl (by decide) ?_
      refine v_iremN h 55 56 dL_foresees_55 rfl (by omega) (by omega) (by omega) ?_
      refine v_iald h 56 57 dL_foresees_56 rfl (hRq _) (vp_in_nI (n := j % 32) (by omega) (by decide)) ?_
      rw [nI_clamp (by omega), gd_at (by omega)]
      refine v_stQr h 57 58 (j % 32) dL_foresees_57 rfl (by omega) ?_
      refine v_aload (i := 4) h 58 60 dL_foresees_58 rfl ld4 ?_
      refine v_iload (i := 8) h 60 62 dL_foresees_60 rfl ld8 ?_
      refine v_bipush (v := nI 13) h 62 64 dL_foresees_62 rfl (by decide) ?_
      refine v_iremN h 64 65 dL_foresees_64 rfl (by omega) (by omega) (by omega) ?_
      refine v_aload_n (i := 0) h 65 66 dL_foresees_65 rfl rfl ld0 ?_
      refine v_iload (i := 8) h 66 68 dL_foresees_66 rfl ld8 ?_
      refine v_bipush (v := nI 13) h 68 70 dL_foresees_68 rfl (by decide) ?_
      refine v_iremN h 70 71 dL_foresees_70 rfl (by omega) (by omega) (by omega) ?_
      refine v_iald h 71 72 dL_foresees_71 rfl (hRg _) (vp_in_nI (n := j % 13) (by omega) (by decide)) ?_
      rw [nI_clamp (by omega), gd_at (by omega)]
      refine v_stG h 72 73 (j % 13) dL_foresees_72 rfl (by omega) ?_
      refine v_iinc (i := 8) h 73 76 dL_foresees_73 rfl ld8 (by first | exact iinc1 _ | rfl) (by decide) (so8 rfl) ?_
      refine v_goto h 76 27 dL_foresees_76 (by decide) ?_
      exact V.weakT (ih (j + 1) (by omega)) (And.intro rfl (And.intro rfl (And.intro rfl (And.intro rfl (And.intro rfl (And.intro rfl (And.intro rfl (And.intro rfl (And.intro rfl trivial)))))))))
  refine v_bipush (v := nI 13) h 0 2 dL_foresees_0 rfl (by decide) ?_
  refine v_newI (N := 13) h 2 4 dL_foresees_2 rfl (nI_pos (by omega)) (nI_clamp (by omega)) (by omega) aI ⟨by decide, by decide⟩ ?_
  refine v_astore (i := 4) h 4 6 dL_foresees_4 rfl (by decide) (so4 rfl) ?_
  refine v_bipush (v := nI 64) h 6 8 dL_foresees_6 rfl (by decide) ?_
  refine v_newI (N := 64) h 8 10 dL_foresees_8 rfl (nI_pos (by omega)) (nI_clamp (by omega)) (by omega) aI ⟨by decide, by decide⟩ ?_
  refine v_astore (i := 5) h 10 12 dL_foresees_10 rfl (by decide) (so5 rfl) ?_
  refine v_bipush (v := nI 32) h 12 14 dL_foresees_12 rfl (by decide) ?_
  refine v_newI (N := 32) h 14 16 dL_foresees_14 rfl (nI_pos (by omega)) (nI_clamp (by omega)) (by omega) aI ⟨by decide, by decide⟩ ?_
  refine v_astore (i := 6) h 16 18 dL_foresees_16 rfl (by decide) (so6 rfl) ?_
  refine v_bipush (v := nI 14) h 18 20 dL_foresees_18 rfl (by decide) ?_
  refine v_newI (N := 14) h 20 22 dL_foresees_20 rfl (nI_pos (by omega)) (nI_clamp (by omega)) (by omega) aI ⟨by decide, by decide⟩ ?_
  refine v_astore (i := 7) h 22 24 dL_foresees_22 rfl (by decide) (so7 rfl) ?_
  refine V.world new4 ?_
  refine V.weakT (L' := [some (.ref B), some (.ref (B + 1)), some (.ref (B + 2)), some (.ref T), some (.ref w.1), some (.ref (w.1 + 1)), some (.ref (w.1 + 2)), some (.ref (w.1 + 3)), none, none]) ?_ (And.intro rfl (And.intro rfl (And.intro rfl (And.intro rfl (And.intro rfl (And.intro rfl (And.intro rfl (And.intro rfl trivial))))))))
  refine v_iconst (v := 0) h 24 25 dL_foresees_24 rfl (by decide) ?_
  refine v_istore (i := 8) h 25 27 dL_foresees_25 rfl (by decide) (so8 rfl) ?_
  exact V.weakT (loop27 64 0 (by omega)) (And.intro rfl (And.intro rfl (And.intro rfl (And.intro rfl (And.intro rfl (And.intro rfl (And.intro rfl (And.intro rfl (And.intro rfl trivial)))))))))

