/-! THE DRILL'S CELLS: the object at D, its line from D + 1, its draft from D + 24, the row of saved lines at D + 47, they from D + 48, the text at D + 140 -/
def drF (D : Nat) (sc se tl : Int32) : List Value := [.ref (D + 1), .ref (D + 24), .ref (D + 47), .int sc, .int se, .ref (D + 140), .int tl]
def dlC (E : EE) (D : Nat) (S0 S1 : St) (Sv : Nat → St) (sc se tl : Int32) (tx : St) (o : Nat) : va_E :=
  if o = 0 then .inr (3, drF D sc se tl)
  else if o < 24 then lnC E (D + 1) S0 (o - 1)
  else if o < 47 then lnC E (D + 24) S1 (o - 24)
  else if o = 47 then .inl (gLn E, 4, .inr (.inr (.inr (.inr (fun k => some (D + 48 + 23 * k))))))
  else if o < 140 then lnC E (D + 48 + 23 * ((o - 48) / 23)) (Sv ((o - 48) / 23)) ((o - 48) % 23)
  else .inl (gI E, 100, .inl tx)
def dl (E : EE) (D : Nat) (S0 S1 : St) (Sv : Nat → St) (sc se tl : Int32) (tx : St) (w : Wo) : Wo := (w.1, fun a => if D ≤ a ∧ a < D + 141 then some (dlC E D S0 S1 Sv sc se tl tx (a - D)) else w.2 a)
section DL
variable {E : EE} {D : Nat} {S0 S1 : St} {Sv : Nat → St} {sc se tl : Int32} {tx : St} {w : Wo}
theorem dl_at (o : Nat) (h : o < 141) : (dl E D S0 S1 Sv sc se tl tx w).2 (D + o) = some (dlC E D S0 S1 Sv sc se tl tx o) := by
  show (if D ≤ D + o ∧ D + o < D + 141 then some (dlC E D S0 S1 Sv sc se tl tx (D + o - D)) else w.2 (D + o)) = _
  rw [if_pos ⟨by omega, by omega⟩, Nat.add_sub_cancel_left]
theorem dl_out {a : Nat} (h : a < D ∨ D + 141 ≤ a) : (dl E D S0 S1 Sv sc se tl tx w).2 a = w.2 a := by
  show (if D ≤ a ∧ a < D + 141 then some (dlC E D S0 S1 Sv sc se tl tx (a - D)) else w.2 a) = _
  rw [if_neg (by omega)]
theorem dl_dr : (dl E D S0 S1 Sv sc se tl tx w).2 D = some (.inr (3, drF D sc se tl)) := dl_at (D := D) 0 (by decide)
theorem dl_sv : (dl E D S0 S1 Sv sc se tl tx w).2 (D + 47) = some (.inl (gLn E, 4, .inr (.inr (.inr (.inr (fun k => some (D + 48 + 23 * k))))))) := dl_at 47 (by decide)
theorem dl_tx : (dl E D S0 S1 Sv sc se tl tx w).2 (D + 140) = some (.inl (gI E, 100, .inl tx)) := dl_at 140 (by decide)
theorem dlC_0 {o : Nat} (h1 : o < 23) : dlC E D S0 S1 Sv sc se tl tx (1 + o) = lnC E (D + 1) S0 o := by
  unfold dlC
  rw [if_neg (by omega), if_pos (by omega), Nat.add_sub_cancel_left]
theorem dlC_1 {o : Nat} (h1 : o < 23) : dlC E D S0 S1 Sv sc se tl tx (24 + o) = lnC E (D + 24) S1 o := by
  unfold dlC
  rw [if_neg (by omega), if_neg (by omega), if_pos (by omega), Nat.add_sub_cancel_left]
theorem dlC_k {o k : Nat} (h1 : o < 23) (hk : k < 4) : dlC E D S0 S1 Sv sc se tl tx (48 + 23 * k + o) = lnC E (D + 48 + 23 * k) (Sv k) o := by
  unfold dlC
  rw [if_neg (by omega), if_neg (by omega), if_neg (by omega), if_neg (by omega), if_pos (by omega), show (48 + 23 * k + o - 48) / 23 = k by omega, show (48 + 23 * k + o - 48) % 23 = o by omega]
theorem dl_h0 : HL E (dl E D S0 S1 Sv sc se tl tx w) (D + 1) S0 := fun o h => by
  rw [show D + 1 + o = D + (1 + o) by omega, dl_at _ (by omega), dlC_0 h]
theorem dl_h1 : HL E (dl E D S0 S1 Sv sc se tl tx w) (D + 24) S1 := fun o h => by
  rw [show D + 24 + o = D + (24 + o) by omega, dl_at _ (by omega), dlC_1 h]
theorem dl_hk {k : Nat} (hk : k < 4) : HL E (dl E D S0 S1 Sv sc se tl tx w) (D + 48 + 23 * k) (Sv k) := fun o h => by
  rw [show D + 48 + 23 * k + o = D + (48 + 23 * k + o) by omega, dl_at _ (by omega), dlC_k h hk]
/-- worlds of the drill that agree on its cells -/
theorem dl_ext {S0' S1' : St} {Sv' : Nat → St} {sc' se' tl' : Int32} {tx' : St} {w1 : Wo} (h1 : w1.1 = w.1) (ho : ∀ a, a < D ∨ D + 141 ≤ a → w1.2 a = w.2 a) (hi : ∀ o, o < 141 → w1.2 (D + o) = some (dlC E D S0' S1' Sv' sc' se' tl' tx' o)) : w1 = dl E D S0' S1' Sv' sc' se' tl' tx' w := by
  refine Prod.ext h1 (funext fun a => ?_)
  by_cases ha : D ≤ a ∧ a < D + 141
  · obtain ⟨o, rfl⟩ : ∃ o, a = D + o := ⟨a - D, by omega⟩
    rw [hi o (by omega), dl_at o (by omega)]
  · rw [ho a (by omega), dl_out (by omega)]
/-- a line of the drill anew -/
theorem dl_line {S' : St} {B b : Nat} (hB : B = D + b) (hb : b + 23 ≤ 141) {S0' S1' : St} {Sv' : Nat → St} (hin : ∀ o, o < 23 → dlC E D S0' S1' Sv' sc se tl tx (b + o) = lnC E B S' o) (hout : ∀ o, o < 141 → (o < b ∨ b + 23 ≤ o) → dlC E D S0' S1' Sv' sc se tl tx o = dlC E D S0 S1 Sv sc se tl tx o) : pl E B S' (dl E D S0 S1 Sv sc se tl tx w) = dl E D S0' S1' Sv' sc se tl tx w := by
  subst hB
  refine dl_ext rfl (fun a ha => ?_) (fun o ho => ?_)
  · rw [pl_out (by omega), dl_out ha]
  · by_cases q : b ≤ o ∧ o < b + 23
    · obtain ⟨i, rfl⟩ : ∃ i, o = b + i := ⟨o - b, by omega⟩
      rw [show D + (b + i) = D + b + i by omega, pl_at i (by omega), hin i (by omega)]
    · rw [pl_out (by omega), dl_at o ho, hout o ho (by omega)]
theorem dl_p0 {S' : St} : pl E (D + 1) S' (dl E D S0 S1 Sv sc se tl tx w) = dl E D S' S1 Sv sc se tl tx w := by
  refine dl_line (b := 1) rfl (by decide) (fun o h => dlC_0 h) (fun o h h2 => ?_)
  unfold dlC
  by_cases c0 : o = 0
  · rw [if_pos c0, if_pos c0]
  · have c1 : ¬ o < 24 := by omega
    rw [if_neg c0, if_neg c0, if_neg c1, if_neg c1]
theorem dl_p1 {S' : St} : pl E (D + 24) S' (dl E D S0 S1 Sv sc se tl tx w) = dl E D S0 S' Sv sc se tl tx w := by
  refine dl_line (b := 24) rfl (by decide) (fun o h => dlC_1 h) (fun o h h2 => ?_)
  unfold dlC
  by_cases c0 : o = 0
  · rw [if_pos c0, if_pos c0]
  rw [if_neg c0, if_neg c0]
  by_cases c1 : o < 24
  · rw [if_pos c1, if_pos c1]
  · have c2 : ¬ o < 47 := by omega
    rw [if_neg c1, if_neg c1, if_neg c2, if_neg c2]
theorem dl_pk {S' : St} {k : Nat} (hk : k < 4) : pl E (D + 48 + 23 * k) S' (dl E D S0 S1 Sv sc se tl tx w) = dl E D S0 S1 (va_up Sv k S') sc se tl tx w := by
  refine dl_line (b := 48 + 23 * k) (by omega) (by omega) (fun o h => ?_) (fun o h h2 => ?_)
  · rw [dlC_k h hk, va_up_self]
  unfold dlC
  by_cases c0 : o = 0
  · rw [if_pos c0, if_pos c0]
  rw [if_neg c0, if_neg c0]
  by_cases c1 : o < 24
  · rw [if_pos c1, if_pos c1]
  rw [if_neg c1, if_neg c1]
  by_cases c2 : o < 47
  · rw [if_pos c2, if_pos c2]
  rw [if_neg c2, if_neg c2]
  by_cases c3 : o = 47
  · rw [if_pos c3, if_pos c3]
  rw [if_neg c3, if_neg c3]
  by_cases c4 : o < 140
  · rw [if_pos c4, if_pos c4, va_up_ne _ _ (by omega)]
  · rw [if_neg c4, if_neg c4]
theorem dlC_dr {sc' se' tl' : Int32} {o : Nat} (h : o ≠ 0) : dlC E D S0 S1 Sv sc' se' tl' tx o = dlC E D S0 S1 Sv sc se tl tx o := by
  unfold dlC
  rw [if_neg h, if_neg h]
theorem dl_obj {sc' se' tl' : Int32} {e : va_E} (he : e = .inr (3, drF D sc' se' tl')) : wup (dl E D S0 S1 Sv sc se tl tx w) D e = dl E D S0 S1 Sv sc' se' tl' tx w := by
  subst he
  refine dl_ext rfl (fun a ha => ?_) (fun o ho => ?_)
  · show (if a = D then some _ else _) = _
    rw [if_neg (by omega), dl_out ha]
  · show (if D + o = D then some _ else _) = _
    by_cases c0 : o = 0
    · subst c0
      rw [if_pos (by omega)]
      rfl
    · rw [if_neg (by omega), dl_at o ho]
      exact congrArg some (dlC_dr c0).symm
theorem dl_txt {x : Int32} {i : Nat} : wup (dl E D S0 S1 Sv sc se tl tx w) (D + 140) (.inl (gI E, 100, .inl (upd tx i x))) = dl E D S0 S1 Sv sc se tl (upd tx i x) w := by
  refine dl_ext rfl (fun a ha => ?_) (fun o ho => ?_)
  · show (if a = D + 140 then some _ else _) = _
    rw [if_neg (by omega), dl_out ha]
  · show (if D + o = D + 140 then some _ else _) = _
    by_cases c0 : o = 140
    · subst c0
      rw [if_pos rfl]
      rfl
    · rw [if_neg (by omega), dl_at o ho]
      refine congrArg some ?_
      unfold dlC
      by_cases d0 : o = 0
      · rw [if_pos d0, if_pos d0]
      rw [if_neg d0, if_neg d0]
      by_cases d1 : o < 24
      · rw [if_pos d1, if_pos d1]
      rw [if_neg d1, if_neg d1]
      by_cases d2 : o < 47
      · rw [if_pos d2, if_pos d2]
      rw [if_neg d2, if_neg d2]
      by_cases d3 : o = 47
      · rw [if_pos d3, if_pos d3]
      rw [if_neg d3, if_neg d3, if_pos (by omega), if_pos (by omega)]
/-- a line's contract, over the drill -/
theorem Cd.d0 {M : MI} {as : List Value} {r : Option Value} {S' : St} (k : Cd E M (pl E (D + 1) S0 (dl E D S0 S1 Sv sc se tl tx w)) as r (pl E (D + 1) S' (dl E D S0 S1 Sv sc se tl tx w))) : Cd E M (dl E D S0 S1 Sv sc se tl tx w) as r (dl E D S' S1 Sv sc se tl tx w) := by
  rw [dl_p0, dl_p0] at k
  exact k
theorem Cd.d1 {M : MI} {as : List Value} {r : Option Value} {S' : St} (k : Cd E M (pl E (D + 24) S1 (dl E D S0 S1 Sv sc se tl tx w)) as r (pl E (D + 24) S' (dl E D S0 S1 Sv sc se tl tx w))) : Cd E M (dl E D S0 S1 Sv sc se tl tx w) as r (dl E D S0 S' Sv sc se tl tx w) := by
  rw [dl_p1, dl_p1] at k
  exact k
theorem Cd.dk {M : MI} {as : List Value} {r : Option Value} {S' : St} {j : Nat} (hj : j < 4) (k : Cd E M (pl E (D + 48 + 23 * j) (Sv j) (dl E D S0 S1 Sv sc se tl tx w)) as r (pl E (D + 48 + 23 * j) S' (dl E D S0 S1 Sv sc se tl tx w))) : Cd E M (dl E D S0 S1 Sv sc se tl tx w) as r (dl E D S0 S1 (va_up Sv j S') sc se tl tx w) := by
  rw [(dl_hk hj).eq, dl_pk hj] at k
  exact k
end DL
section DROWS
variable {E : EE} {Γ : Cx} {M : MI} {own : String} {k n : Nat} {L : Lo} {st : List Value} {w : Wo} {idx : Nat}
variable {D : Nat} {S0 S1 : St} {Sv : Nat → St} {sc se tl : Int32} {tx : St}
theorem v_putSc (h : OkB E Γ M own) (pc q : Nat) {x : Int32} (hd : decode (mC M) pc = .ok (.putfield idx, 3)) (hq : pc + 3 = q) (hf : FW own idx 3 3 .int) (kk : V E Γ k n q L st (dl E D S0 S1 Sv x se tl tx w)) : V E Γ k n pc L (.int x :: .ref D :: st) (dl E D S0 S1 Sv sc se tl tx w) :=
  v_put h pc q hd hq hf dl_dr rfl rfl (by show 3 < 7; omega) (V.world (dl_obj (sc' := x) (se' := se) (tl' := tl) rfl) kk)
theorem v_putSe (h : OkB E Γ M own) (pc q : Nat) {x : Int32} (hd : decode (mC M) pc = .ok (.putfield idx, 3)) (hq : pc + 3 = q) (hf : FW own idx 3 4 .int) (kk : V E Γ k n q L st (dl E D S0 S1 Sv sc x tl tx w)) : V E Γ k n pc L (.int x :: .ref D :: st) (dl E D S0 S1 Sv sc se tl tx w) :=
  v_put h pc q hd hq hf dl_dr rfl rfl (by show 4 < 7; omega) (V.world (dl_obj (sc' := sc) (se' := x) (tl' := tl) rfl) kk)
theorem v_putTl (h : OkB E Γ M own) (pc q : Nat) {x : Int32} (hd : decode (mC M) pc = .ok (.putfield idx, 3)) (hq : pc + 3 = q) (hf : FW own idx 3 6 .int) (kk : V E Γ k n q L st (dl E D S0 S1 Sv sc se x tx w)) : V E Γ k n pc L (.int x :: .ref D :: st) (dl E D S0 S1 Sv sc se tl tx w) :=
  v_put h pc q hd hq hf dl_dr rfl rfl (by show 6 < 7; omega) (V.world (dl_obj (sc' := sc) (se' := se) (tl' := x) rfl) kk)
theorem v_putCh0 (h : OkB E Γ M own) (pc q : Nat) {j c : Nat} {x : Int32} (hd : decode (mC M) pc = .ok (.putfield idx, 3)) (hq : pc + 3 = q) (hf : FW own idx 0 j .int) (hc : c < 14) (hj : j < 8) (kk : V E Γ k n q L st (dl E D (upd S0 (13 + 8 * c + j) x) S1 Sv sc se tl tx w)) : V E Γ k n pc L (.int x :: .ref (D + 1 + 3 + c) :: st) (dl E D S0 S1 Sv sc se tl tx w) := by
  refine V.world (w' := pl E (D + 1) S0 (dl E D S0 S1 Sv sc se tl tx w)) dl_p0.symm (v_putCh h pc q hd hq hf hc hj ?_)
  rw [dl_p0]
  exact kk
theorem v_aaldS (h : OkB E Γ M own) (pc q : Nat) {e : Nat} (hd : decode (mC M) pc = .ok (.aaload, 1)) (hq : pc + 1 = q) (he : e < 4) (kk : V E Γ k n q L (.ref (D + 48 + 23 * e) :: st) (dl E D S0 S1 Sv sc se tl tx w)) : V E Γ k n pc L (.int (nI e) :: .ref (D + 47) :: st) (dl E D S0 S1 Sv sc se tl tx w) := by
  refine v_aaldLn h pc q hd hq dl_sv (vp_in_nI he (by decide)) ?_
  rw [nI_clamp (by omega)]
  exact kk
theorem v_ildT (h : OkB E Γ M own) (pc q : Nat) (i : Nat) (hd : decode (mC M) pc = .ok (.iaload, 1)) (hq : pc + 1 = q) (hin : i < 100) (kk : V E Γ k n q L (.int (tx i) :: st) (dl E D S0 S1 Sv sc se tl tx w)) : V E Γ k n pc L (.int (nI i) :: .ref (D + 140) :: st) (dl E D S0 S1 Sv sc se tl tx w) := by
  refine v_iald h pc q hd hq dl_tx (vp_in_nI hin (by decide)) ?_
  rw [nI_clamp (by omega)]
  exact kk
theorem v_istT (h : OkB E Γ M own) (pc q : Nat) (i : Nat) {x : Int32} (hd : decode (mC M) pc = .ok (.iastore, 1)) (hq : pc + 1 = q) (hin : i < 100) (kk : V E Γ k n q L st (dl E D S0 S1 Sv sc se tl (upd tx i x) w)) : V E Γ k n pc L (.int x :: .int (nI i) :: .ref (D + 140) :: st) (dl E D S0 S1 Sv sc se tl tx w) := by
  refine v_iast h pc q hd hq dl_tx (vp_in_nI hin (by decide)) ?_
  rw [nI_clamp (by omega), dl_txt]
  exact kk
end DROWS
