/-! THE LAW'S OWN ROWS -/
def mLaw : MI := (x, code, 9, ret, room_1)
def XG (E : EE) (Γ : Cx) (b L : Nat) (xs : Nat → Int32) : Prop := match Γ with | (_, _, _, s, _, _, _, _, _, _) => va_X b L xs s s.heap ∧ b < s.heap.size ∧ ¬ E.2.2 b
def LG (E : EE) (Γ : Cx) (b : Nat) : Prop := match Γ with | (_, _, _, s, _, args, below, meth, _, Q) => args = #[Value.ref b] ∧ meth.sig.returnType = ret ∧ Q = lw_Z below #[Value.ref b] s ∧ E.2.2 = fun q => s.heap.size ≤ q
section LROWS
variable {E : EE} {Γ : Cx} {M : MI} {own : String} {k n : Nat} {L : Lo} {st : List Value} {w : Wo}
theorem v_lcmp0 (h : OkB E Γ M own) (pc q : Nat) {x : Int64} (hd : decode (mC M) pc = .ok (.lcmp, 1)) (hq : pc + 1 = q) (kk : V E Γ k n q L (.int 0 :: st) w) : V E Γ k n pc L (.long x :: .long x :: st) w := by
  obtain ⟨p, e, R, s, m, args, below, meth, c, Q⟩ := Γ
  obtain ⟨hx, hb, hml, hown, hts, hlk, hK, hR, hA0⟩ := h
  subst hq
  intro H locs ls hP hS hl T hT X
  obtain ⟨t, a, b⟩ := kk H locs ls hP hS hl T hT X
  refine ⟨t, ?_, b⟩
  have h1 : ¬ x > x := Int64.lt_irrefl
  jvm_step X.here [X.here.top, hx, hb, hd, h1]
  exact a
theorem v_sld (h : OkB E Γ M own) {b N : Nat} {xs : Nat → Int32} (hX : XG E Γ b N xs) (pc q : Nat) {i : Nat} (hi : i < N) (hN : N < 2 ^ 31) (hd : decode (mC M) pc = .ok (.iaload, 1)) (hq : pc + 1 = q) (kk : V E Γ k n q L (.int (xs i) :: st) w) : V E Γ k n pc L (.int (nI i) :: .ref b :: st) w := by
  obtain ⟨p, e, R, s, m, args, below, meth, c, Q⟩ := Γ
  obtain ⟨hx, hb, hml, hown, hts, hlk, hK, hR, hA0⟩ := h
  obtain ⟨x1, x2, x3⟩ := hX
  subst hq
  intro H locs ls hP hS hl
  refine va_sld hx hb x1 x2 x3 hS (vp_in_nI (n := i) hi hN) hd ?_
  rw [nI_clamp (by omega)]
  exact kk H locs ls hP hS hl
theorem v_slen (h : OkB E Γ M own) {b N : Nat} {xs : Nat → Int32} (hX : XG E Γ b N xs) (pc q : Nat) (hd : decode (mC M) pc = .ok (.arraylength, 1)) (hq : pc + 1 = q) (kk : V E Γ k n q L (.int (nI N) :: st) w) : V E Γ k n pc L (.ref b :: st) w := by
  obtain ⟨p, e, R, s, m, args, below, meth, c, Q⟩ := Γ
  obtain ⟨hx, hb, hml, hown, hts, hlk, hK, hR, hA0⟩ := h
  obtain ⟨x1, x2, x3⟩ := hX
  subst hq
  intro H locs ls hP hS hl
  exact va_slen hx hb x1 x2 x3 hS hd (kk H locs ls hP hS hl)
/-- the law's end -/
theorem v_law1 {b : Nat} (h : OkB E Γ mLaw RL) (hL : LG E Γ b) (pc : Nat) (hk : k ≤ 601024) (hn : n ≤ 7293034) (hd : decode code pc = .ok (.ireturn, 1)) : V E Γ k n pc L [.int 1] w := by
  obtain ⟨p, e, R, s, m, args, below, meth, c, Q⟩ := Γ
  obtain ⟨hx, hb, hml, hown, hts, hlk, hK, hR, hA0⟩ := h
  obtain ⟨rfl, hrt, rfl, hA⟩ := hL
  have hR : R = room_1 := hR
  subst hR
  intro H locs ls hP hS hl
  refine va_forget (fun q hq => by have := hS.2.2 q hq; rw [hA] at this; exact this) ?_
  refine W.widen hk hn (W.base ?_)
  exact lw_ret (Drawn.sameBut.refl s.drawn lw_cs) hx hb hrt hlk hd
end LROWS
