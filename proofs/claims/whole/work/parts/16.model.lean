/-! THE REFERENCE'S CELLS: the object at D; s, past, aside, kept, text, minutes behind it -/
def gd (n : Nat) (f : St) : St := fun k => if k < n then f k else 0
theorem gd_at {n : Nat} {f : St} {i : Nat} (h : i < n) : gd n f i = f i := if_pos h
theorem gd_up {n : Nat} {f : St} {i : Nat} {x : Int32} (h : i < n) : upd (gd n f) i x = gd n (upd f i x) := by
  funext k
  show (if k = i then x else if k < n then f k else 0) = if k < n then (if k = i then x else f k) else 0
  by_cases e : k = i
  · rw [if_pos e, if_pos (by omega), if_pos e]
  · rw [if_neg e, if_neg e]
theorem gd_eq {n : Nat} {f g : St} (h : ∀ i, i < n → f i = g i) : gd n f = gd n g := by
  funext k
  show (if k < n then f k else 0) = if k < n then g k else 0
  by_cases e : k < n
  · rw [if_pos e, if_pos e, h k e]
  · rw [if_neg e, if_neg e]
def psF (Ps : Nat → St) : St := fun i => Ps (i / 171) (i % 171)
def mdF (D : Nat) (I : St) (h : Int64) : List Value := [.ref (D + 1), .ref (D + 2), .ref (D + 3), .ref (D + 4), .int (I 0), .ref (D + 5), .int (I 1), .int (I 2), .ref (D + 6), .int (I 3), .int (I 4), .long h]
def mlC (E : EE) (D : Nat) (S : St) (Ps : Nat → St) (A K T N I : St) (hh : Int64) (o : Nat) : va_E :=
  if o = 0 then .inr (4, mdF D I hh)
  else if o = 1 then .inl (gI E, 171, .inl (gd 171 S))
  else if o = 2 then .inl (gI E, 684, .inl (gd 684 (psF Ps)))
  else if o = 3 then .inl (gI E, 171, .inl (gd 171 A))
  else if o = 4 then .inl (gI E, 171, .inl (gd 171 K))
  else if o = 5 then .inl (gI E, 100, .inl (gd 100 T))
  else .inl (gI E, 14, .inl (gd 14 N))
def ml (E : EE) (D : Nat) (S : St) (Ps : Nat → St) (A K T N I : St) (hh : Int64) (w : Wo) : Wo := (w.1, fun a => if D ≤ a ∧ a < D + 7 then some (mlC E D S Ps A K T N I hh (a - D)) else w.2 a)
section ML
variable {E : EE} {D : Nat} {S : St} {Ps : Nat → St} {A K T N I : St} {hh : Int64} {w : Wo}
theorem ml_at (o : Nat) (h : o < 7) : (ml E D S Ps A K T N I hh w).2 (D + o) = some (mlC E D S Ps A K T N I hh o) := by
  show (if D ≤ D + o ∧ D + o < D + 7 then some (mlC E D S Ps A K T N I hh (D + o - D)) else w.2 (D + o)) = _
  rw [if_pos ⟨by omega, by omega⟩, Nat.add_sub_cancel_left]
theorem ml_out {a : Nat} (h : a < D ∨ D + 7 ≤ a) : (ml E D S Ps A K T N I hh w).2 a = w.2 a := by
  show (if D ≤ a ∧ a < D + 7 then some (mlC E D S Ps A K T N I hh (a - D)) else w.2 a) = _
  rw [if_neg (by omega)]
theorem ml_ob : (ml E D S Ps A K T N I hh w).2 D = some (.inr (4, mdF D I hh)) := ml_at (D := D) 0 (by decide)
theorem ml_s : (ml E D S Ps A K T N I hh w).2 (D + 1) = some (.inl (gI E, 171, .inl (gd 171 S))) := ml_at 1 (by decide)
theorem ml_p : (ml E D S Ps A K T N I hh w).2 (D + 2) = some (.inl (gI E, 684, .inl (gd 684 (psF Ps)))) := ml_at 2 (by decide)
theorem ml_a : (ml E D S Ps A K T N I hh w).2 (D + 3) = some (.inl (gI E, 171, .inl (gd 171 A))) := ml_at 3 (by decide)
theorem ml_k : (ml E D S Ps A K T N I hh w).2 (D + 4) = some (.inl (gI E, 171, .inl (gd 171 K))) := ml_at 4 (by decide)
theorem ml_t : (ml E D S Ps A K T N I hh w).2 (D + 5) = some (.inl (gI E, 100, .inl (gd 100 T))) := ml_at 5 (by decide)
theorem ml_n : (ml E D S Ps A K T N I hh w).2 (D + 6) = some (.inl (gI E, 14, .inl (gd 14 N))) := ml_at 6 (by decide)
theorem ml_ext {S' : St} {Ps' : Nat → St} {A' K' T' N' I' : St} {hh' : Int64} {w1 : Wo} (h1 : w1.1 = w.1) (ho : ∀ a, a < D ∨ D + 7 ≤ a → w1.2 a = w.2 a) (hi : ∀ o, o < 7 → w1.2 (D + o) = some (mlC E D S' Ps' A' K' T' N' I' hh' o)) : w1 = ml E D S' Ps' A' K' T' N' I' hh' w := by
  refine Prod.ext h1 (funext fun a => ?_)
  by_cases ha : D ≤ a ∧ a < D + 7
  · obtain ⟨o, rfl⟩ : ∃ o, a = D + o := ⟨a - D, by omega⟩
    rw [hi o (by omega), ml_at o (by omega)]
  · rw [ho a (by omega), ml_out (by omega)]
theorem ml_set {S' : St} {Ps' : Nat → St} {A' K' T' N' I' : St} {hh' : Int64} {e : va_E} (b : Nat) (hb : b < 7) (he : mlC E D S' Ps' A' K' T' N' I' hh' b = e) (ho : ∀ o, o < 7 → o ≠ b → mlC E D S' Ps' A' K' T' N' I' hh' o = mlC E D S Ps A K T N I hh o) : wup (ml E D S Ps A K T N I hh w) (D + b) e = ml E D S' Ps' A' K' T' N' I' hh' w := by
  refine ml_ext rfl (fun a ha => ?_) (fun o hlt => ?_)
  · show (if a = D + b then some e else _) = _
    rw [if_neg (by omega), ml_out ha]
  · show (if D + o = D + b then some e else _) = _
    by_cases q : o = b
    · subst q
      rw [if_pos rfl, he]
    · rw [if_neg (by omega), ml_at o hlt, ho o hlt q]
theorem seven {P : Nat → Prop} (h0 : P 0) (h1 : P 1) (h2 : P 2) (h3 : P 3) (h4 : P 4) (h5 : P 5) (h6 : P 6) : ∀ o, o < 7 → P o := by
  intro o ho
  rcases (show o = 0 ∨ o = 1 ∨ o = 2 ∨ o = 3 ∨ o = 4 ∨ o = 5 ∨ o = 6 by omega) with rfl | rfl | rfl | rfl | rfl | rfl | rfl <;> assumption
theorem ml_ws {S' : St} : wup (ml E D S Ps A K T N I hh w) (D + 1) (.inl (gI E, 171, .inl (gd 171 S'))) = ml E D S' Ps A K T N I hh w := ml_set 1 (by decide) rfl (fun o h hne => seven (P := fun o => o ≠ 1 → mlC E D S' Ps A K T N I hh o = mlC E D S Ps A K T N I hh o) (fun _ => rfl) (fun q => absurd rfl q) (fun _ => rfl) (fun _ => rfl) (fun _ => rfl) (fun _ => rfl) (fun _ => rfl) o h hne)
theorem ml_wa {A' : St} : wup (ml E D S Ps A K T N I hh w) (D + 3) (.inl (gI E, 171, .inl (gd 171 A'))) = ml E D S Ps A' K T N I hh w := ml_set 3 (by decide) rfl (fun o h hne => seven (P := fun o => o ≠ 3 → mlC E D S Ps A' K T N I hh o = mlC E D S Ps A K T N I hh o) (fun _ => rfl) (fun _ => rfl) (fun _ => rfl) (fun q => absurd rfl q) (fun _ => rfl) (fun _ => rfl) (fun _ => rfl) o h hne)
theorem ml_wk {K' : St} : wup (ml E D S Ps A K T N I hh w) (D + 4) (.inl (gI E, 171, .inl (gd 171 K'))) = ml E D S Ps A K' T N I hh w := ml_set 4 (by decide) rfl (fun o h hne => seven (P := fun o => o ≠ 4 → mlC E D S Ps A K' T N I hh o = mlC E D S Ps A K T N I hh o) (fun _ => rfl) (fun _ => rfl) (fun _ => rfl) (fun _ => rfl) (fun q => absurd rfl q) (fun _ => rfl) (fun _ => rfl) o h hne)
theorem ml_wt {T' : St} : wup (ml E D S Ps A K T N I hh w) (D + 5) (.inl (gI E, 100, .inl (gd 100 T'))) = ml E D S Ps A K T' N I hh w := ml_set 5 (by decide) rfl (fun o h hne => seven (P := fun o => o ≠ 5 → mlC E D S Ps A K T' N I hh o = mlC E D S Ps A K T N I hh o) (fun _ => rfl) (fun _ => rfl) (fun _ => rfl) (fun _ => rfl) (fun _ => rfl) (fun q => absurd rfl q) (fun _ => rfl) o h hne)
theorem ml_wn {N' : St} : wup (ml E D S Ps A K T N I hh w) (D + 6) (.inl (gI E, 14, .inl (gd 14 N'))) = ml E D S Ps A K T N' I hh w := ml_set 6 (by decide) rfl (fun o h hne => seven (P := fun o => o ≠ 6 → mlC E D S Ps A K T N' I hh o = mlC E D S Ps A K T N I hh o) (fun _ => rfl) (fun _ => rfl) (fun _ => rfl) (fun _ => rfl) (fun _ => rfl) (fun _ => rfl) (fun q => absurd rfl q) o h hne)
theorem ml_wo {I' : St} {hh' : Int64} : wup (ml E D S Ps A K T N I hh w) D (.inr (4, mdF D I' hh')) = ml E D S Ps A K T N I' hh' w := ml_set 0 (by decide) rfl (fun o h hne => seven (P := fun o => o ≠ 0 → mlC E D S Ps A K T N I' hh' o = mlC E D S Ps A K T N I hh o) (fun q => absurd rfl q) (fun _ => rfl) (fun _ => rfl) (fun _ => rfl) (fun _ => rfl) (fun _ => rfl) (fun _ => rfl) o h hne)
theorem psF_up {Ps : Nat → St} {p k : Nat} {x : Int32} (hk : k < 171) : upd (psF Ps) (171 * p + k) x = psF (va_up Ps p (upd (Ps p) k x)) := by
  funext i
  show (if i = 171 * p + k then x else Ps (i / 171) (i % 171)) = (if i / 171 = p then upd (Ps p) k x else Ps (i / 171)) (i % 171)
  by_cases e : i / 171 = p
  · rw [if_pos e]
    show _ = if i % 171 = k then x else Ps p (i % 171)
    by_cases e2 : i % 171 = k
    · rw [if_pos (by omega), if_pos e2]
    · rw [if_neg (by omega), if_neg e2, e]
  · rw [if_neg e, if_neg (by omega)]
theorem psF_at {Ps : Nat → St} {p k : Nat} (hk : k < 171) : psF Ps (171 * p + k) = Ps p k := by
  show Ps ((171 * p + k) / 171) ((171 * p + k) % 171) = _
  rw [show (171 * p + k) / 171 = p by omega, show (171 * p + k) % 171 = k by omega]
theorem ml_wp {Ps' : Nat → St} : wup (ml E D S Ps A K T N I hh w) (D + 2) (.inl (gI E, 684, .inl (gd 684 (psF Ps')))) = ml E D S Ps' A K T N I hh w := ml_set 2 (by decide) rfl (fun o h hne => seven (P := fun o => o ≠ 2 → mlC E D S Ps' A K T N I hh o = mlC E D S Ps A K T N I hh o) (fun _ => rfl) (fun _ => rfl) (fun q => absurd rfl q) (fun _ => rfl) (fun _ => rfl) (fun _ => rfl) (fun _ => rfl) o h hne)
end ML
section MROWS
variable {E : EE} {Γ : Cx} {M : MI} {own : String} {k n : Nat} {L : Lo} {st : List Value} {w : Wo} {idx : Nat}
variable {D : Nat} {S : St} {Ps : Nat → St} {A K T N I : St} {hh : Int64}
theorem v_ildSm (h : OkB E Γ M own) (pc q : Nat) (i : Nat) (hd : decode (mC M) pc = .ok (.iaload, 1)) (hq : pc + 1 = q) (hin : i < 171) (kk : V E Γ k n q L (.int (S i) :: st) (ml E D S Ps A K T N I hh w)) : V E Γ k n pc L (.int (nI i) :: .ref (D + 1) :: st) (ml E D S Ps A K T N I hh w) := by
  refine v_iald h pc q hd hq ml_s (vp_in_nI hin (by decide)) ?_
  rw [nI_clamp (by omega), gd_at hin]
  exact kk
theorem v_istSm (h : OkB E Γ M own) (pc q : Nat) (i : Nat) {x : Int32} (hd : decode (mC M) pc = .ok (.iastore, 1)) (hq : pc + 1 = q) (hin : i < 171) (kk : V E Γ k n q L st (ml E D (upd S i x) Ps A K T N I hh w)) : V E Γ k n pc L (.int x :: .int (nI i) :: .ref (D + 1) :: st) (ml E D S Ps A K T N I hh w) := by
  refine v_iast h pc q hd hq ml_s (vp_in_nI hin (by decide)) ?_
  rw [nI_clamp (by omega), gd_up hin, ml_ws]
  exact kk
theorem v_ildAm (h : OkB E Γ M own) (pc q : Nat) (i : Nat) (hd : decode (mC M) pc = .ok (.iaload, 1)) (hq : pc + 1 = q) (hin : i < 171) (kk : V E Γ k n q L (.int (A i) :: st) (ml E D S Ps A K T N I hh w)) : V E Γ k n pc L (.int (nI i) :: .ref (D + 3) :: st) (ml E D S Ps A K T N I hh w) := by
  refine v_iald h pc q hd hq ml_a (vp_in_nI hin (by decide)) ?_
  rw [nI_clamp (by omega), gd_at hin]
  exact kk
theorem v_istAm (h : OkB E Γ M own) (pc q : Nat) (i : Nat) {x : Int32} (hd : decode (mC M) pc = .ok (.iastore, 1)) (hq : pc + 1 = q) (hin : i < 171) (kk : V E Γ k n q L st (ml E D S Ps (upd A i x) K T N I hh w)) : V E Γ k n pc L (.int x :: .int (nI i) :: .ref (D + 3) :: st) (ml E D S Ps A K T N I hh w) := by
  refine v_iast h pc q hd hq ml_a (vp_in_nI hin (by decide)) ?_
  rw [nI_clamp (by omega), gd_up hin, ml_wa]
  exact kk
theorem v_ildXm (h : OkB E Γ M own) (pc q : Nat) (i : Nat) (hd : decode (mC M) pc = .ok (.iaload, 1)) (hq : pc + 1 = q) (hin : i < 100) (kk : V E Γ k n q L (.int (T i) :: st) (ml E D S Ps A K T N I hh w)) : V E Γ k n pc L (.int (nI i) :: .ref (D + 5) :: st) (ml E D S Ps A K T N I hh w) := by
  refine v_iald h pc q hd hq ml_t (vp_in_nI hin (by decide)) ?_
  rw [nI_clamp (by omega), gd_at hin]
  exact kk
theorem v_istXm (h : OkB E Γ M own) (pc q : Nat) (i : Nat) {x : Int32} (hd : decode (mC M) pc = .ok (.iastore, 1)) (hq : pc + 1 = q) (hin : i < 100) (kk : V E Γ k n q L st (ml E D S Ps A K (upd T i x) N I hh w)) : V E Γ k n pc L (.int x :: .int (nI i) :: .ref (D + 5) :: st) (ml E D S Ps A K T N I hh w) := by
  refine v_iast h pc q hd hq ml_t (vp_in_nI hin (by decide)) ?_
  rw [nI_clamp (by omega), gd_up hin, ml_wt]
  exact kk
theorem v_ildNm (h : OkB E Γ M own) (pc q : Nat) (i : Nat) (hd : decode (mC M) pc = .ok (.iaload, 1)) (hq : pc + 1 = q) (hin : i < 14) (kk : V E Γ k n q L (.int (N i) :: st) (ml E D S Ps A K T N I hh w)) : V E Γ k n pc L (.int (nI i) :: .ref (D + 6) :: st) (ml E D S Ps A K T N I hh w) := by
  refine v_iald h pc q hd hq ml_n (vp_in_nI hin (by decide)) ?_
  rw [nI_clamp (by omega), gd_at hin]
  exact kk
theorem v_istNm (h : OkB E Γ M own) (pc q : Nat) (i : Nat) {x : Int32} (hd : decode (mC M) pc = .ok (.iastore, 1)) (hq : pc + 1 = q) (hin : i < 14) (kk : V E Γ k n q L st (ml E D S Ps A K T (upd N i x) I hh w)) : V E Γ k n pc L (.int x :: .int (nI i) :: .ref (D + 6) :: st) (ml E D S Ps A K T N I hh w) := by
  refine v_iast h pc q hd hq ml_n (vp_in_nI hin (by decide)) ?_
  rw [nI_clamp (by omega), gd_up hin, ml_wn]
  exact kk
theorem v_ildPm (h : OkB E Γ M own) (pc q : Nat) (p j : Nat) (hd : decode (mC M) pc = .ok (.iaload, 1)) (hq : pc + 1 = q) (hp : p < 4) (hj : j < 171) (kk : V E Γ k n q L (.int (Ps p j) :: st) (ml E D S Ps A K T N I hh w)) : V E Γ k n pc L (.int (nI (171 * p + j)) :: .ref (D + 2) :: st) (ml E D S Ps A K T N I hh w) := by
  refine v_iald h pc q hd hq ml_p (vp_in_nI (by omega) (by decide)) ?_
  rw [nI_clamp (by omega), gd_at (by omega), psF_at hj]
  exact kk
theorem v_istPm (h : OkB E Γ M own) (pc q : Nat) (p j : Nat) {x : Int32} (hd : decode (mC M) pc = .ok (.iastore, 1)) (hq : pc + 1 = q) (hp : p < 4) (hj : j < 171) (kk : V E Γ k n q L st (ml E D S (va_up Ps p (upd (Ps p) j x)) A K T N I hh w)) : V E Γ k n pc L (.int x :: .int (nI (171 * p + j)) :: .ref (D + 2) :: st) (ml E D S Ps A K T N I hh w) := by
  refine v_iast h pc q hd hq ml_p (vp_in_nI (by omega) (by decide)) ?_
  rw [nI_clamp (by omega), gd_up (by omega), psF_up hj, ml_wp]
  exact kk
theorem v_putM4 (h : OkB E Γ M own) (pc q : Nat) {x : Int32} (hd : decode (mC M) pc = .ok (.putfield idx, 3)) (hq : pc + 3 = q) (hf : FW own idx 4 4 .int) (kk : V E Γ k n q L st (ml E D S Ps A K T N (upd I 0 x) hh w)) : V E Γ k n pc L (.int x :: .ref D :: st) (ml E D S Ps A K T N I hh w) :=
  v_put h pc q hd hq hf ml_ob rfl rfl (by show 4 < 12; omega) (V.world (ml_wo (I' := upd I 0 x) (hh' := hh)) kk)
theorem v_putM6 (h : OkB E Γ M own) (pc q : Nat) {x : Int32} (hd : decode (mC M) pc = .ok (.putfield idx, 3)) (hq : pc + 3 = q) (hf : FW own idx 4 6 .int) (kk : V E Γ k n q L st (ml E D S Ps A K T N (upd I 1 x) hh w)) : V E Γ k n pc L (.int x :: .ref D :: st) (ml E D S Ps A K T N I hh w) :=
  v_put h pc q hd hq hf ml_ob rfl rfl (by show 6 < 12; omega) (V.world (ml_wo (I' := upd I 1 x) (hh' := hh)) kk)
theorem v_putM7 (h : OkB E Γ M own) (pc q : Nat) {x : Int32} (hd : decode (mC M) pc = .ok (.putfield idx, 3)) (hq : pc + 3 = q) (hf : FW own idx 4 7 .int) (kk : V E Γ k n q L st (ml E D S Ps A K T N (upd I 2 x) hh w)) : V E Γ k n pc L (.int x :: .ref D :: st) (ml E D S Ps A K T N I hh w) :=
  v_put h pc q hd hq hf ml_ob rfl rfl (by show 7 < 12; omega) (V.world (ml_wo (I' := upd I 2 x) (hh' := hh)) kk)
theorem v_putM9 (h : OkB E Γ M own) (pc q : Nat) {x : Int32} (hd : decode (mC M) pc = .ok (.putfield idx, 3)) (hq : pc + 3 = q) (hf : FW own idx 4 9 .int) (kk : V E Γ k n q L st (ml E D S Ps A K T N (upd I 3 x) hh w)) : V E Γ k n pc L (.int x :: .ref D :: st) (ml E D S Ps A K T N I hh w) :=
  v_put h pc q hd hq hf ml_ob rfl rfl (by show 9 < 12; omega) (V.world (ml_wo (I' := upd I 3 x) (hh' := hh)) kk)
theorem v_putM10 (h : OkB E Γ M own) (pc q : Nat) {x : Int32} (hd : decode (mC M) pc = .ok (.putfield idx, 3)) (hq : pc + 3 = q) (hf : FW own idx 4 10 .int) (kk : V E Γ k n q L st (ml E D S Ps A K T N (upd I 4 x) hh w)) : V E Γ k n pc L (.int x :: .ref D :: st) (ml E D S Ps A K T N I hh w) :=
  v_put h pc q hd hq hf ml_ob rfl rfl (by show 10 < 12; omega) (V.world (ml_wo (I' := upd I 4 x) (hh' := hh)) kk)
theorem v_putM11 (h : OkB E Γ M own) (pc q : Nat) {x : Int64} (hd : decode (mC M) pc = .ok (.putfield idx, 3)) (hq : pc + 3 = q) (hf : FW own idx 4 11 .long) (kk : V E Γ k n q L st (ml E D S Ps A K T N I x w)) : V E Γ k n pc L (.long x :: .ref D :: st) (ml E D S Ps A K T N I hh w) :=
  v_put h pc q hd hq hf ml_ob rfl rfl (by show 11 < 12; omega) (V.world (ml_wo (I' := I) (hh' := x)) kk)
end MROWS
