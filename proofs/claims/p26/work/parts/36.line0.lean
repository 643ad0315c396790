/-! THE CONSTRUCTORS: a line -/
theorem arrV_same {cA : ClassId} {N : Nat} {f g : Nat → Value} (h : ∀ j, j < N → f j = g j) : arrV cA N f = arrV cA N g := by
  unfold arrV
  congr 1
  apply Array.ext_getElem?
  intro i
  by_cases hi : i < N
  · simp [hi, h i hi]
  · simp [hi]
theorem V.conv {E : EE} {Γ : Cx} {k n pc : Nat} {L : Lo} {st : List Value} {w w' : Wo} (h : ∀ H, HP E w H → HP E w' H) (kk : V E Γ k n pc L st w') : V E Γ k n pc L st w := by
  obtain ⟨p, e, R, s, m, args, below, meth, c, Q⟩ := Γ
  intro H locs ls hP hS hl
  exact kk H locs ls (h H hP) hS hl
theorem HP.conv {E : EE} {w w' : Wo} (h1 : w.1 = w'.1) (h2 : ∀ a e', w'.2 a = some e' → ∃ e, w.2 a = some e ∧ ∀ H, va_at (gD E) vwCl (a, e) H → va_at (gD E) vwCl (a, e') H) : ∀ H, HP E w H → HP E w' H := by
  intro H hP
  refine ⟨hP.1.trans h1, fun a e' he => ?_⟩
  obtain ⟨e, he1, he2⟩ := h2 a e' he
  exact ⟨(hP.2 a e he1).1, he2 H (hP.2 a e he1).2⟩
theorem row_same {E : EE} {a : Nat} {cA : ClassId} {N : Nat} {f g : Nat → Option Nat} (h : ∀ j, j < N → f j = g j) : ∀ H, va_at (gD E) vwCl (a, .inl (cA, N, .inr (.inr (.inr (.inr f))))) H → va_at (gD E) vwCl (a, .inl (cA, N, .inr (.inr (.inr (.inr g))))) H := by
  intro H hh
  have hh : H[a]? = some (vp_cell cA (N, .inr (.inr (.inr (.inr f))))) := hh
  show H[a]? = some (vp_cell cA (N, .inr (.inr (.inr (.inr g)))))
  rw [hh, vp_cell_q, vp_cell_q, arrV_same (fun j hj => by rw [h j hj])]
def z8 : List Value := [.int 0, .int 0, .int 0, .int 0, .int 0, .int 0, .int 0, .int 0]
def fN (B c : Nat) : List Value := [.int 0, .int 0, .int 0, .int 0, .int 0, .int 0, .int 0, if 0 < c then .ref (B + 1) else .null, if 1 < c then .ref (B + 2) else .null, if 2 < c then .ref (B + 17) else .null, if 3 < c then .ref (B + 22) else .null]
def rowN (B j k : Nat) : Option Nat := if k < j then some (B + k) else none
def cN (E : EE) (B c j u x : Nat) : va_E :=
  if x = 0 then .inr (1, fN B c)
  else if x = 1 then .inl (gI E, 6, .inl (fun _ => 0))
  else if x = 2 then .inl (gCh E, 14, .inr (.inr (.inr (.inr (rowN (B + 3) j)))))
  else if x < 17 then .inr (0, z8)
  else if x = 17 then .inl (gTm E, 4, .inr (.inr (.inr (.inr (rowN (B + 18) u)))))
  else if x < 22 then .inr (2, z8)
  else .inl (gI E, 14, .inl (fun _ => 0))
def wN (E : EE) (B c o j u : Nat) (wb : Nat → Option va_E) : Wo := (B + o, fun a => if B ≤ a ∧ a < B + o then some (cN E B c j u (a - B)) else wb a)
section WN
variable {E : EE} {B c o j u : Nat} {wb : Nat → Option va_E}
theorem wN_at {x : Nat} (h : x < o) : (wN E B c o j u wb).2 (B + x) = some (cN E B c j u x) := by
  show (if B ≤ B + x ∧ B + x < B + o then some (cN E B c j u (B + x - B)) else wb (B + x)) = _
  rw [if_pos ⟨by omega, by omega⟩, Nat.add_sub_cancel_left]
theorem wN_new {e : va_E} (h : cN E B c j u o = e) : wnew (wN E B c o j u wb) e = wN E B c (o + 1) j u wb := by
  refine Prod.ext rfl (funext fun a => ?_)
  show (if a = B + o then some e else if B ≤ a ∧ a < B + o then some (cN E B c j u (a - B)) else wb a) = if B ≤ a ∧ a < B + (o + 1) then some (cN E B c j u (a - B)) else wb a
  by_cases q : a = B + o
  · subst q
    rw [if_pos rfl, if_pos ⟨by omega, by omega⟩, Nat.add_sub_cancel_left, h]
  · rw [if_neg q]
    by_cases q2 : B ≤ a ∧ a < B + o
    · rw [if_pos q2, if_pos ⟨q2.1, by omega⟩]
    · rw [if_neg q2, if_neg (by omega)]
theorem wN_up {c' j' u' x : Nat} {e : va_E} (hx : x < o) (h : cN E B c' j' u' x = e) (ho : ∀ y, y < o → y ≠ x → cN E B c' j' u' y = cN E B c j u y) : wup (wN E B c o j u wb) (B + x) e = wN E B c' o j' u' wb := by
  refine Prod.ext rfl (funext fun a => ?_)
  show (if a = B + x then some e else if B ≤ a ∧ a < B + o then some (cN E B c j u (a - B)) else wb a) = if B ≤ a ∧ a < B + o then some (cN E B c' j' u' (a - B)) else wb a
  by_cases q : a = B + x
  · subst q
    rw [if_pos rfl, if_pos ⟨by omega, by omega⟩, Nat.add_sub_cancel_left, h]
  · rw [if_neg q]
    by_cases q2 : B ≤ a ∧ a < B + o
    · rw [if_pos q2, if_pos q2, ho (a - B) (by omega) (by omega)]
    · rw [if_neg q2, if_neg q2]
theorem wN_f {c' : Nat} (hx : 0 < o) : wup (wN E B c o j u wb) B (.inr (1, fN B c')) = wN E B c' o j u wb :=
  wN_up (x := 0) hx rfl (fun y _ hy => by unfold cN; rw [if_neg hy, if_neg hy])
theorem wN_c {j' : Nat} (hx : 2 < o) : wup (wN E B c o j u wb) (B + 2) (.inl (gCh E, 14, .inr (.inr (.inr (.inr (rowN (B + 3) j')))))) = wN E B c o j' u wb :=
  wN_up (x := 2) hx rfl (fun y _ hy => by
    unfold cN
    by_cases a : y = 0
    · rw [if_pos a, if_pos a]
    · rw [if_neg a, if_neg a]
      by_cases b : y = 1
      · rw [if_pos b, if_pos b]
      · rw [if_neg b, if_neg b, if_neg hy, if_neg hy])
theorem wN_t {u' : Nat} (hx : 17 < o) : wup (wN E B c o j u wb) (B + 17) (.inl (gTm E, 4, .inr (.inr (.inr (.inr (rowN (B + 18) u')))))) = wN E B c o j u' wb :=
  wN_up (x := 17) hx rfl (fun y _ hy => by
    unfold cN
    by_cases a : y = 0
    · rw [if_pos a, if_pos a]
    · rw [if_neg a, if_neg a]
      by_cases b : y = 1
      · rw [if_pos b, if_pos b]
      · rw [if_neg b, if_neg b]
        by_cases d : y = 2
        · rw [if_pos d, if_pos d]
        · rw [if_neg d, if_neg d]
          by_cases f : y < 17
          · rw [if_pos f, if_pos f]
          · rw [if_neg f, if_neg f, if_neg hy, if_neg hy])
theorem row_up {B j : Nat} : va_up (rowN B j) j (some (B + j)) = rowN B (j + 1) := by
  funext k
  show (if k = j then some (B + j) else if k < j then some (B + k) else none) = if k < j + 1 then some (B + k) else none
  by_cases q : k = j
  · subst q
    rw [if_pos rfl, if_pos (by omega)]
  · rw [if_neg q]
    by_cases q2 : k < j
    · rw [if_pos q2, if_pos (by omega)]
    · rw [if_neg q2, if_neg (by omega)]
theorem row_0 {B : Nat} : rowN B 0 = fun _ => none := by
  funext k
  unfold rowN
  rw [if_neg (by omega)]
/-- a new line is a row of nothing -/
theorem wN_pl (w : Nat → Option va_E) : ∀ H, HP E (wN E B 4 23 14 4 w) H → HP E (pl E B (fun _ => 0) (B + 23, w)) H := by
  refine HP.conv rfl (fun a e' he => ?_)
  by_cases q : B ≤ a ∧ a < B + 23
  · obtain ⟨x, rfl⟩ : ∃ x, a = B + x := ⟨a - B, by omega⟩
    rw [pl_at x (by omega)] at he
    cases he
    refine ⟨_, wN_at (by omega), ?_⟩
    unfold cN lnC
    by_cases x0 : x = 0
    · rw [if_pos x0, if_pos x0]; exact fun H h => h
    · rw [if_neg x0, if_neg x0]
      by_cases x1 : x = 1
      · rw [if_pos x1, if_pos x1, show wyF (fun _ => 0) = fun _ => 0 from funext fun k => by unfold wyF; split <;> rfl]; exact fun H h => h
      · rw [if_neg x1, if_neg x1]
        by_cases x2 : x = 2
        · rw [if_pos x2, if_pos x2]; exact row_same (fun k hk => if_pos hk)
        · rw [if_neg x2, if_neg x2]
          by_cases x3 : x < 17
          · rw [if_pos x3, if_pos x3]; exact fun H h => h
          · rw [if_neg x3, if_neg x3]
            by_cases x4 : x = 17
            · rw [if_pos x4, if_pos x4]; exact row_same (fun k hk => if_pos hk)
            · rw [if_neg x4, if_neg x4]
              by_cases x5 : x < 22
              · rw [if_pos x5, if_pos x5]; exact fun H h => h
              · rw [if_neg x5, if_neg x5, show emF (fun _ => 0) = fun _ => 0 from funext fun k => by unfold emF; split <;> rfl]; exact fun H h => h
  · rw [pl_out (by omega)] at he
    refine ⟨e', ?_, fun H h => h⟩
    show (if B ≤ a ∧ a < B + 23 then some (cN E B 4 14 4 (a - B)) else w a) = _
    rw [if_neg q]
    exact he
end WN
