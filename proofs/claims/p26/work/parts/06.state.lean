/-! THE CELLS OF A LINE: one row of 171 numbers S, as the reference lays it; the line's objects lie from B on, one behind the other -/
abbrev St : Type := Nat → Int32
def chF (S : St) (j : Nat) : List Value := [.int (S (13 + 8 * j + 0)), .int (S (13 + 8 * j + 1)), .int (S (13 + 8 * j + 2)), .int (S (13 + 8 * j + 3)), .int (S (13 + 8 * j + 4)), .int (S (13 + 8 * j + 5)), .int (S (13 + 8 * j + 6)), .int (S (13 + 8 * j + 7))]
def tmF (S : St) (j : Nat) : List Value := [.int (S (125 + 8 * j + 0)), .int (S (125 + 8 * j + 1)), .int (S (125 + 8 * j + 2)), .int (S (125 + 8 * j + 3)), .int (S (125 + 8 * j + 4)), .int (S (125 + 8 * j + 5)), .int (S (125 + 8 * j + 6)), .int (S (125 + 8 * j + 7))]
def lnF (B : Nat) (S : St) : List Value := [.int (S 0), .int (S 9), .int (S 7), .int (S 8), .int (S 12), .int (S 10), .int (S 11), .ref (B + 1), .ref (B + 2), .ref (B + 17), .ref (B + 22)]
def wyF (S : St) : Nat → Int32 := fun k => if k < 6 then S (1 + k) else 0
def emF (S : St) : Nat → Int32 := fun k => if k < 14 then S (157 + k) else 0
def lnC (E : EE) (B : Nat) (S : St) (o : Nat) : va_E :=
  if o = 0 then .inr (1, lnF B S)
  else if o = 1 then .inl (gI E, 6, .inl (wyF S))
  else if o = 2 then .inl (gCh E, 14, .inr (.inr (.inr (.inr (fun k => some (B + 3 + k))))))
  else if o < 17 then .inr (0, chF S (o - 3))
  else if o = 17 then .inl (gTm E, 4, .inr (.inr (.inr (.inr (fun k => some (B + 18 + k))))))
  else if o < 22 then .inr (2, tmF S (o - 18))
  else .inl (gI E, 14, .inl (emF S))
def pl (E : EE) (B : Nat) (S : St) (w : Wo) : Wo := (w.1, fun a => if B ≤ a ∧ a < B + 23 then some (lnC E B S (a - B)) else w.2 a)
theorem upd_self (S : St) (i : Nat) (x : Int32) : upd S i x i = x := by simp [upd]
theorem upd_ne (S : St) {i j : Nat} (x : Int32) (h : j ≠ i) : upd S i x j = S j := by simp [upd, h]
theorem pl_at {E : EE} {B : Nat} {S : St} {w : Wo} (o : Nat) (h : o < 23) : (pl E B S w).2 (B + o) = some (lnC E B S o) := by
  show (if B ≤ B + o ∧ B + o < B + 23 then some (lnC E B S (B + o - B)) else w.2 (B + o)) = _
  rw [if_pos ⟨by omega, by omega⟩, Nat.add_sub_cancel_left]
theorem pl_out {E : EE} {B : Nat} {S : St} {w : Wo} {a : Nat} (h : a < B ∨ B + 23 ≤ a) : (pl E B S w).2 a = w.2 a := by
  show (if B ≤ a ∧ a < B + 23 then some (lnC E B S (a - B)) else w.2 a) = _
  rw [if_neg (by omega)]
theorem pl_ln {E : EE} {B : Nat} {S : St} {w : Wo} : (pl E B S w).2 B = some (.inr (1, lnF B S)) := pl_at (E := E) (w := w) 0 (by decide)
theorem pl_wy {E : EE} {B : Nat} {S : St} {w : Wo} : (pl E B S w).2 (B + 1) = some (.inl (gI E, 6, .inl (wyF S))) := pl_at 1 (by decide)
theorem pl_cs {E : EE} {B : Nat} {S : St} {w : Wo} : (pl E B S w).2 (B + 2) = some (.inl (gCh E, 14, .inr (.inr (.inr (.inr (fun k => some (B + 3 + k))))))) := pl_at 2 (by decide)
theorem pl_ts {E : EE} {B : Nat} {S : St} {w : Wo} : (pl E B S w).2 (B + 17) = some (.inl (gTm E, 4, .inr (.inr (.inr (.inr (fun k => some (B + 18 + k))))))) := pl_at 17 (by decide)
theorem pl_em {E : EE} {B : Nat} {S : St} {w : Wo} : (pl E B S w).2 (B + 22) = some (.inl (gI E, 14, .inl (emF S))) := pl_at 22 (by decide)
theorem lnC_ch {E : EE} {B : Nat} {S : St} {c : Nat} (h : c < 14) : lnC E B S (3 + c) = .inr (0, chF S c) := by
  unfold lnC
  rw [if_neg (by omega), if_neg (by omega), if_neg (by omega), if_pos (by omega), Nat.add_sub_cancel_left]
theorem lnC_tm {E : EE} {B : Nat} {S : St} {t : Nat} (h : t < 4) : lnC E B S (18 + t) = .inr (2, tmF S t) := by
  unfold lnC
  rw [if_neg (by omega), if_neg (by omega), if_neg (by omega), if_neg (by omega), if_neg (by omega), if_pos (by omega), Nat.add_sub_cancel_left]
theorem pl_ch {E : EE} {B : Nat} {S : St} {w : Wo} {c : Nat} (h : c < 14) : (pl E B S w).2 (B + 3 + c) = some (.inr (0, chF S c)) := by
  rw [show B + 3 + c = B + (3 + c) by omega, pl_at _ (by omega), lnC_ch h]
theorem pl_tm {E : EE} {B : Nat} {S : St} {w : Wo} {t : Nat} (h : t < 4) : (pl E B S w).2 (B + 18 + t) = some (.inr (2, tmF S t)) := by
  rw [show B + 18 + t = B + (18 + t) by omega, pl_at _ (by omega), lnC_tm h]
/-- a line's cells in the world -/
def HL (E : EE) (w : Wo) (B : Nat) (S : St) : Prop := ∀ o, o < 23 → w.2 (B + o) = some (lnC E B S o)
theorem HL.eq {E : EE} {w : Wo} {B : Nat} {S : St} (h : HL E w B S) : pl E B S w = w := by
  refine Prod.ext rfl (funext fun a => ?_)
  show (if B ≤ a ∧ a < B + 23 then some (lnC E B S (a - B)) else w.2 a) = _
  by_cases ha : B ≤ a ∧ a < B + 23
  · rw [if_pos ha]
    have := h (a - B) (by omega)
    rw [show B + (a - B) = a by omega] at this
    exact this.symm
  · rw [if_neg ha]
theorem HL.of_pl {E : EE} {w : Wo} {B : Nat} {S : St} : HL E (pl E B S w) B S := fun o h => pl_at o h
theorem HL.out {E : EE} {w : Wo} {B B' : Nat} {S S' : St} (h : HL E w B' S') (hd : B + 23 ≤ B' ∨ B' + 23 ≤ B) : HL E (pl E B S w) B' S' := fun o ho => by
  rw [pl_out (by omega)]
  exact h o ho
theorem pl_pl {E : EE} {w : Wo} {B : Nat} {S S' : St} : pl E B S (pl E B S' w) = pl E B S w := by
  refine Prod.ext rfl (funext fun a => ?_)
  show (if B ≤ a ∧ a < B + 23 then some (lnC E B S (a - B)) else (if B ≤ a ∧ a < B + 23 then some (lnC E B S' (a - B)) else w.2 a)) = (if B ≤ a ∧ a < B + 23 then some (lnC E B S (a - B)) else w.2 a)
  split <;> rfl
/-- a write into one cell of a line -/
theorem pl_set {E : EE} {B : Nat} {S S' : St} {w : Wo} {e : va_E} (o : Nat) (ho : o < 23) (h0 : lnC E B S' o = e) (h : ∀ i, i < 23 → i ≠ o → lnC E B S' i = lnC E B S i) : wup (pl E B S w) (B + o) e = pl E B S' w := by
  refine Prod.ext rfl (funext fun a => ?_)
  show (if a = B + o then some e else (if B ≤ a ∧ a < B + 23 then some (lnC E B S (a - B)) else w.2 a)) = (if B ≤ a ∧ a < B + 23 then some (lnC E B S' (a - B)) else w.2 a)
  by_cases ha : a = B + o
  · subst ha
    rw [if_pos rfl, if_pos (by omega), Nat.add_sub_cancel_left, h0]
  · rw [if_neg ha]
    by_cases hb : B ≤ a ∧ a < B + 23
    · rw [if_pos hb, if_pos hb, h (a - B) (by omega) (by omega)]
    · rw [if_neg hb, if_neg hb]
theorem chF_ne {S : St} {i c : Nat} {x : Int32} (h : i < 13 + 8 * c ∨ 13 + 8 * c + 8 ≤ i) : chF (upd S i x) c = chF S c := by
  unfold chF
  rw [upd_ne S x (by omega), upd_ne S x (by omega), upd_ne S x (by omega), upd_ne S x (by omega), upd_ne S x (by omega), upd_ne S x (by omega), upd_ne S x (by omega), upd_ne S x (by omega)]
theorem tmF_ne {S : St} {i c : Nat} {x : Int32} (h : i < 125 + 8 * c ∨ 125 + 8 * c + 8 ≤ i) : tmF (upd S i x) c = tmF S c := by
  unfold tmF
  rw [upd_ne S x (by omega), upd_ne S x (by omega), upd_ne S x (by omega), upd_ne S x (by omega), upd_ne S x (by omega), upd_ne S x (by omega), upd_ne S x (by omega), upd_ne S x (by omega)]
theorem lnF_ne {B : Nat} {S : St} {i : Nat} {x : Int32} (h : (1 ≤ i ∧ i < 7) ∨ 13 ≤ i) : lnF B (upd S i x) = lnF B S := by
  unfold lnF
  rw [upd_ne S x (by omega), upd_ne S x (by omega), upd_ne S x (by omega), upd_ne S x (by omega), upd_ne S x (by omega), upd_ne S x (by omega), upd_ne S x (by omega)]
theorem wyF_ne {S : St} {i : Nat} {x : Int32} (h : i = 0 ∨ 7 ≤ i) : wyF (upd S i x) = wyF S := by
  funext k
  unfold wyF
  by_cases hk : k < 6
  · rw [if_pos hk, if_pos hk, upd_ne S x (by omega)]
  · rw [if_neg hk, if_neg hk]
theorem emF_ne {S : St} {i : Nat} {x : Int32} (h : i < 157 ∨ 171 ≤ i) : emF (upd S i x) = emF S := by
  funext k
  unfold emF
  by_cases hk : k < 14
  · rw [if_pos hk, if_pos hk, upd_ne S x (by omega)]
  · rw [if_neg hk, if_neg hk]
theorem wyF_up {S : St} {i : Nat} {x : Int32} (h : i < 6) : wyF (upd S (1 + i) x) = upd (wyF S) i x := by
  funext k
  show (if k < 6 then (if 1 + k = 1 + i then x else S (1 + k)) else 0) = if k = i then x else if k < 6 then S (1 + k) else 0
  by_cases hk : k < 6
  · rw [if_pos hk, if_pos hk]
    by_cases hi : k = i
    · rw [if_pos (by omega), if_pos hi]
    · rw [if_neg (by omega), if_neg hi]
  · rw [if_neg hk, if_neg hk, if_neg (by omega)]
theorem emF_up {S : St} {i : Nat} {x : Int32} (h : i < 14) : emF (upd S (157 + i) x) = upd (emF S) i x := by
  funext k
  show (if k < 14 then (if 157 + k = 157 + i then x else S (157 + k)) else 0) = if k = i then x else if k < 14 then S (157 + k) else 0
  by_cases hk : k < 14
  · rw [if_pos hk, if_pos hk]
    by_cases hi : k = i
    · rw [if_pos (by omega), if_pos hi]
    · rw [if_neg (by omega), if_neg hi]
  · rw [if_neg hk, if_neg hk, if_neg (by omega)]
theorem wyF_at {S : St} {i : Nat} (h : i < 6) : wyF S i = S (1 + i) := if_pos h
theorem emF_at {S : St} {i : Nat} (h : i < 14) : emF S i = S (157 + i) := if_pos h
theorem k8 {P : Nat → Prop} (h0 : P 0) (h1 : P 1) (h2 : P 2) (h3 : P 3) (h4 : P 4) (h5 : P 5) (h6 : P 6) (h7 : P 7) {k : Nat} (hk : k < 8) : P k := by
  rcases (show k = 0 ∨ k = 1 ∨ k = 2 ∨ k = 3 ∨ k = 4 ∨ k = 5 ∨ k = 6 ∨ k = 7 by omega) with rfl | rfl | rfl | rfl | rfl | rfl | rfl | rfl <;> assumption
theorem chF_up {S : St} {c k : Nat} {x : Int32} (hk : k < 8) : chF (upd S (13 + 8 * c + k) x) c = (chF S c).set k (.int x) := by
  revert hk
  refine fun hk => k8 (P := fun k => chF (upd S (13 + 8 * c + k) x) c = (chF S c).set k (.int x)) ?_ ?_ ?_ ?_ ?_ ?_ ?_ ?_ hk <;> simp [chF, upd]
theorem tmF_up {S : St} {c k : Nat} {x : Int32} (hk : k < 8) : tmF (upd S (125 + 8 * c + k) x) c = (tmF S c).set k (.int x) := by
  revert hk
  refine fun hk => k8 (P := fun k => tmF (upd S (125 + 8 * c + k) x) c = (tmF S c).set k (.int x)) ?_ ?_ ?_ ?_ ?_ ?_ ?_ ?_ hk <;> simp [tmF, upd]
/-- what one number's change does to the cells -/
theorem lnC_ne {E : EE} {B : Nat} {S : St} {i o : Nat} {x : Int32} (h0 : o = 0 → (1 ≤ i ∧ i < 7) ∨ 13 ≤ i) (h1 : o = 1 → i = 0 ∨ 7 ≤ i) (h2 : 3 ≤ o → o < 17 → i < 13 + 8 * (o - 3) ∨ 13 + 8 * (o - 3) + 8 ≤ i) (h3 : 18 ≤ o → o < 22 → i < 125 + 8 * (o - 18) ∨ 125 + 8 * (o - 18) + 8 ≤ i) (h4 : 22 ≤ o → i < 157 ∨ 171 ≤ i) : lnC E B (upd S i x) o = lnC E B S o := by
  unfold lnC
  by_cases c0 : o = 0
  · rw [if_pos c0, if_pos c0, lnF_ne (h0 c0)]
  rw [if_neg c0, if_neg c0]
  by_cases c1 : o = 1
  · rw [if_pos c1, if_pos c1, wyF_ne (h1 c1)]
  rw [if_neg c1, if_neg c1]
  by_cases c2 : o = 2
  · rw [if_pos c2, if_pos c2]
  rw [if_neg c2, if_neg c2]
  by_cases c3 : o < 17
  · rw [if_pos c3, if_pos c3, chF_ne (h2 (by omega) c3)]
  rw [if_neg c3, if_neg c3]
  by_cases c4 : o = 17
  · rw [if_pos c4, if_pos c4]
  rw [if_neg c4, if_neg c4]
  by_cases c5 : o < 22
  · rw [if_pos c5, if_pos c5, tmF_ne (h3 (by omega) c5)]
  rw [if_neg c5, if_neg c5, emF_ne (h4 (by omega))]
theorem put_ch {E : EE} {B : Nat} {S : St} {w : Wo} {c k : Nat} {x : Int32} (hc : c < 14) (hk : k < 8) : wup (pl E B S w) (B + 3 + c) (.inr (0, (chF S c).set k (.int x))) = pl E B (upd S (13 + 8 * c + k) x) w := by
  rw [show B + 3 + c = B + (3 + c) by omega]
  exact pl_set (3 + c) (by omega) (by rw [lnC_ch hc, chF_up hk]) (fun i hi hne => lnC_ne (by omega) (by omega) (by omega) (by omega) (by omega))
theorem put_tm {E : EE} {B : Nat} {S : St} {w : Wo} {c k : Nat} {x : Int32} (hc : c < 4) (hk : k < 8) : wup (pl E B S w) (B + 18 + c) (.inr (2, (tmF S c).set k (.int x))) = pl E B (upd S (125 + 8 * c + k) x) w := by
  rw [show B + 18 + c = B + (18 + c) by omega]
  exact pl_set (18 + c) (by omega) (by rw [lnC_tm hc, tmF_up hk]) (fun i hi hne => lnC_ne (by omega) (by omega) (by omega) (by omega) (by omega))
theorem put_wy {E : EE} {B : Nat} {S : St} {w : Wo} {i : Nat} {x : Int32} (hi : i < 6) : wup (pl E B S w) (B + 1) (.inl (gI E, 6, .inl (upd (wyF S) i x))) = pl E B (upd S (1 + i) x) w :=
  pl_set 1 (by omega) (by rw [← wyF_up hi]; rfl) (fun j hj hne => lnC_ne (by omega) (by omega) (by omega) (by omega) (by omega))
theorem put_em {E : EE} {B : Nat} {S : St} {w : Wo} {i : Nat} {x : Int32} (hi : i < 14) : wup (pl E B S w) (B + 22) (.inl (gI E, 14, .inl (upd (emF S) i x))) = pl E B (upd S (157 + i) x) w :=
  pl_set 22 (by omega) (by rw [← emF_up hi]; rfl) (fun j hj hne => lnC_ne (by omega) (by omega) (by omega) (by omega) (by omega))
/-- the line's own number k lies at .. -/
def lnI (k : Nat) : Nat := match k with | 0 => 0 | 1 => 9 | 2 => 7 | 3 => 8 | 4 => 12 | 5 => 10 | _ => 11
theorem put_ln {E : EE} {B : Nat} {S : St} {w : Wo} {k : Nat} {x : Int32} (hk : k < 7) : wup (pl E B S w) B (.inr (1, (lnF B S).set k (.int x))) = pl E B (upd S (lnI k) x) w := by
  have key : ∀ i, lnI k = i → (i = 0 ∨ (7 ≤ i ∧ i < 13)) → lnC E B (upd S i x) 0 = .inr (1, (lnF B S).set k (.int x)) → wup (pl E B S w) B (.inr (1, (lnF B S).set k (.int x))) = pl E B (upd S (lnI k) x) w := fun i e h1 h => by
    rw [e]
    exact pl_set 0 (by omega) h (fun j hj hne => lnC_ne (by omega) (by omega) (by omega) (by omega) (by omega))
  rcases (show k = 0 ∨ k = 1 ∨ k = 2 ∨ k = 3 ∨ k = 4 ∨ k = 5 ∨ k = 6 by omega) with rfl | rfl | rfl | rfl | rfl | rfl | rfl
  · exact key 0 rfl (by omega) (by simp [lnC, lnF, upd])
  · exact key 9 rfl (by omega) (by simp [lnC, lnF, upd])
  · exact key 7 rfl (by omega) (by simp [lnC, lnF, upd])
  · exact key 8 rfl (by omega) (by simp [lnC, lnF, upd])
  · exact key 12 rfl (by omega) (by simp [lnC, lnF, upd])
  · exact key 10 rfl (by omega) (by simp [lnC, lnF, upd])
  · exact key 11 rfl (by omega) (by simp [lnC, lnF, upd])
section LROWS
variable {E : EE} {Γ : Cx} {M : MI} {own : String} {k n : Nat} {L : Lo} {st : List Value} {w : Wo} {B : Nat} {S : St} {idx : Nat}
theorem v_putCh (h : OkB E Γ M own) (pc q : Nat) {j c : Nat} {x : Int32} (hd : decode (mC M) pc = .ok (.putfield idx, 3)) (hq : pc + 3 = q) (hf : FW own idx 0 j .int) (hc : c < 14) (hj : j < 8) (kk : V E Γ k n q L st (pl E B (upd S (13 + 8 * c + j) x) w)) : V E Γ k n pc L (.int x :: .ref (B + 3 + c) :: st) (pl E B S w) :=
  v_put h pc q hd hq hf (pl_ch hc) rfl rfl hj (by rw [put_ch hc hj]; exact kk)
theorem v_putChZ (h : OkB E Γ M own) (pc q : Nat) {c : Nat} {x : Int32} (hd : decode (mC M) pc = .ok (.putfield idx, 3)) (hq : pc + 3 = q) (hf : FW own idx 0 3 .boolean) (hc : c < 14) (hx : x = 0 ∨ x = 1) (kk : V E Γ k n q L st (pl E B (upd S (13 + 8 * c + 3) x) w)) : V E Γ k n pc L (.int x :: .ref (B + 3 + c) :: st) (pl E B S w) :=
  v_put h pc q hd hq hf (pl_ch hc) (by rcases hx with rfl | rfl <;> rfl) (by rcases hx with rfl | rfl <;> rfl) (by show 3 < 8; omega) (by rw [put_ch hc (by omega)]; exact kk)
theorem v_putTm (h : OkB E Γ M own) (pc q : Nat) {j c : Nat} {x : Int32} (hd : decode (mC M) pc = .ok (.putfield idx, 3)) (hq : pc + 3 = q) (hf : FW own idx 2 j .int) (hc : c < 4) (hj : j < 8) (kk : V E Γ k n q L st (pl E B (upd S (125 + 8 * c + j) x) w)) : V E Γ k n pc L (.int x :: .ref (B + 18 + c) :: st) (pl E B S w) :=
  v_put h pc q hd hq hf (pl_tm hc) rfl rfl hj (by rw [put_tm hc hj]; exact kk)
theorem v_putLn (h : OkB E Γ M own) (pc q : Nat) {j : Nat} (i : Nat) {x : Int32} (hd : decode (mC M) pc = .ok (.putfield idx, 3)) (hq : pc + 3 = q) (hf : FW own idx 1 j .int) (hi : lnI j = i) (hj : j < 7) (kk : V E Γ k n q L st (pl E B (upd S i x) w)) : V E Γ k n pc L (.int x :: .ref B :: st) (pl E B S w) :=
  v_put h pc q hd hq hf pl_ln rfl rfl (by show j < 11; omega) (by rw [put_ln hj, hi]; exact kk)
theorem v_aldC (h : OkB E Γ M own) (pc q : Nat) {i : Int32} (hd : decode (mC M) pc = .ok (.aaload, 1)) (hq : pc + 1 = q) (hin : vp_in i 14) (kk : V E Γ k n q L (.ref (B + 3 + i.toNatClampNeg) :: st) (pl E B S w)) : V E Γ k n pc L (.int i :: .ref (B + 2) :: st) (pl E B S w) :=
  v_aaldCh h pc q hd hq pl_cs hin kk
theorem v_aldT (h : OkB E Γ M own) (pc q : Nat) {i : Int32} (hd : decode (mC M) pc = .ok (.aaload, 1)) (hq : pc + 1 = q) (hin : vp_in i 4) (kk : V E Γ k n q L (.ref (B + 18 + i.toNatClampNeg) :: st) (pl E B S w)) : V E Γ k n pc L (.int i :: .ref (B + 17) :: st) (pl E B S w) :=
  v_aaldTm h pc q hd hq pl_ts hin kk
theorem v_ildW (h : OkB E Γ M own) (pc q : Nat) (i : Nat) (hd : decode (mC M) pc = .ok (.iaload, 1)) (hq : pc + 1 = q) (hin : i < 6) (kk : V E Γ k n q L (.int (S (1 + i)) :: st) (pl E B S w)) : V E Γ k n pc L (.int (nI i) :: .ref (B + 1) :: st) (pl E B S w) := by
  refine v_iald h pc q hd hq pl_wy (vp_in_nI hin (by omega)) ?_
  rw [nI_clamp (by omega), wyF_at hin]
  exact kk
theorem v_ildE (h : OkB E Γ M own) (pc q : Nat) (i : Nat) (hd : decode (mC M) pc = .ok (.iaload, 1)) (hq : pc + 1 = q) (hin : i < 14) (kk : V E Γ k n q L (.int (S (157 + i)) :: st) (pl E B S w)) : V E Γ k n pc L (.int (nI i) :: .ref (B + 22) :: st) (pl E B S w) := by
  refine v_iald h pc q hd hq pl_em (vp_in_nI hin (by omega)) ?_
  rw [nI_clamp (by omega), emF_at hin]
  exact kk
theorem v_istW (h : OkB E Γ M own) (pc q : Nat) (i : Nat) {x : Int32} (hd : decode (mC M) pc = .ok (.iastore, 1)) (hq : pc + 1 = q) (hin : i < 6) (kk : V E Γ k n q L st (pl E B (upd S (1 + i) x) w)) : V E Γ k n pc L (.int x :: .int (nI i) :: .ref (B + 1) :: st) (pl E B S w) := by
  refine v_iast h pc q hd hq pl_wy (vp_in_nI hin (by omega)) ?_
  rw [nI_clamp (by omega), put_wy hin]
  exact kk
theorem v_istE (h : OkB E Γ M own) (pc q : Nat) (i : Nat) {x : Int32} (hd : decode (mC M) pc = .ok (.iastore, 1)) (hq : pc + 1 = q) (hin : i < 14) (kk : V E Γ k n q L st (pl E B (upd S (157 + i) x) w)) : V E Γ k n pc L (.int x :: .int (nI i) :: .ref (B + 22) :: st) (pl E B S w) := by
  refine v_iast h pc q hd hq pl_em (vp_in_nI hin (by omega)) ?_
  rw [nI_clamp (by omega), put_em hin]
  exact kk
end LROWS
