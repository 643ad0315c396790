/-! THE CONSTRUCTORS: worlds that grow -/
def gW (C : Nat → va_E) (B o : Nat) (wb : Nat → Option va_E) : Wo := (B + o, fun a => if B ≤ a ∧ a < B + o then some (C (a - B)) else wb a)
section GW
variable {E : EE} {C C' : Nat → va_E} {B o : Nat} {wb : Nat → Option va_E}
theorem gW_at {x : Nat} (h : x < o) : (gW C B o wb).2 (B + x) = some (C x) := by
  show (if B ≤ B + x ∧ B + x < B + o then some (C (B + x - B)) else wb (B + x)) = _
  rw [if_pos ⟨by omega, by omega⟩, Nat.add_sub_cancel_left]
theorem gW_new {e : va_E} (h : C o = e) : wnew (gW C B o wb) e = gW C B (o + 1) wb := by
  refine Prod.ext rfl (funext fun a => ?_)
  show (if a = B + o then some e else if B ≤ a ∧ a < B + o then some (C (a - B)) else wb a) = if B ≤ a ∧ a < B + (o + 1) then some (C (a - B)) else wb a
  by_cases q : a = B + o
  · subst q
    rw [if_pos rfl, if_pos ⟨by omega, by omega⟩, Nat.add_sub_cancel_left, h]
  · rw [if_neg q]
    by_cases q2 : B ≤ a ∧ a < B + o
    · rw [if_pos q2, if_pos ⟨q2.1, by omega⟩]
    · rw [if_neg q2, if_neg (by omega)]
theorem gW_up {x : Nat} {e : va_E} (hx : x < o) (h : C' x = e) (ho : ∀ y, y < o → y ≠ x → C' y = C y) : wup (gW C B o wb) (B + x) e = gW C' B o wb := by
  refine Prod.ext rfl (funext fun a => ?_)
  show (if a = B + x then some e else if B ≤ a ∧ a < B + o then some (C (a - B)) else wb a) = if B ≤ a ∧ a < B + o then some (C' (a - B)) else wb a
  by_cases q : a = B + x
  · subst q
    rw [if_pos rfl, if_pos ⟨by omega, by omega⟩, Nat.add_sub_cancel_left, h]
  · rw [if_neg q]
    by_cases q2 : B ≤ a ∧ a < B + o
    · rw [if_pos q2, if_pos q2, ho (a - B) (by omega) (by omega)]
    · rw [if_neg q2, if_neg q2]
theorem gW_1 {e : va_E} (he : e = .inr (1, fN (B + o) 0)) : wnew (gW C B o wb) e = wN E (B + o) 0 1 0 0 (gW C B o wb).2 := by
  subst he
  refine Prod.ext rfl (funext fun a => ?_)
  show (if a = B + o then some _ else (gW C B o wb).2 a) = if B + o ≤ a ∧ a < B + o + 1 then some (cN E (B + o) 0 0 0 (a - (B + o))) else (gW C B o wb).2 a
  by_cases q : a = B + o
  · subst q
    rw [if_pos rfl, if_pos ⟨by omega, by omega⟩, Nat.sub_self]
    rfl
  · rw [if_neg q, if_neg (by omega)]
theorem gW_ln {S : St} (h : ∀ y, y < 23 → C (o + y) = lnC E (B + o) S y) : pl E (B + o) S (B + o + 23, (gW C B o wb).2) = gW C B (o + 23) wb := by
  refine Prod.ext rfl (funext fun a => ?_)
  by_cases q : B + o ≤ a ∧ a < B + o + 23
  · obtain ⟨y, rfl⟩ : ∃ y, a = B + o + y := ⟨a - (B + o), by omega⟩
    rw [pl_at y (by omega), ← h y (by omega), show B + o + y = B + (o + y) by omega, gW_at (by omega)]
  · rw [pl_out (by omega)]
    show (if B ≤ a ∧ a < B + o then some (C (a - B)) else wb a) = if B ≤ a ∧ a < B + (o + 23) then some (C (a - B)) else wb a
    by_cases q2 : B ≤ a ∧ a < B + o
    · rw [if_pos q2, if_pos ⟨q2.1, by omega⟩]
    · rw [if_neg q2, if_neg (by omega)]
theorem gW_p {S : St} {b : Nat} (hb : b + 23 ≤ o) (h : ∀ y, y < 23 → C' (b + y) = lnC E (B + b) S y) (ho : ∀ y, y < o → (y < b ∨ b + 23 ≤ y) → C' y = C y) : pl E (B + b) S (gW C B o wb) = gW C' B o wb := by
  refine Prod.ext rfl (funext fun a => ?_)
  by_cases q : B + b ≤ a ∧ a < B + b + 23
  · obtain ⟨y, rfl⟩ : ∃ y, a = B + b + y := ⟨a - (B + b), by omega⟩
    rw [pl_at y (by omega), ← h y (by omega), show B + b + y = B + (b + y) by omega, gW_at (by omega)]
  · rw [pl_out (by omega)]
    show (if B ≤ a ∧ a < B + o then some (C (a - B)) else wb a) = if B ≤ a ∧ a < B + o then some (C' (a - B)) else wb a
    by_cases q2 : B ≤ a ∧ a < B + o
    · rw [if_pos q2, if_pos q2, ho (a - B) (by omega) (by omega)]
    · rw [if_neg q2, if_neg q2]
end GW
