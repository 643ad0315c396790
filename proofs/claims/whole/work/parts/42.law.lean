/-! THE LAW'S BODY -/
def d00 : DR := (rstS (fun _ => 0) 3, fun _ => 0, fun _ _ => 0, 0, 0, 0, fun _ => 0)
def r00 : MR := (s0 6, fun _ _ => 0, fun _ => 0, fun _ => 0, fun _ => 0, fun _ => 0, 0)
theorem rel_0 : Rel d00 r00 (fun _ => 0) := by
  have hI : Inv (s0 6) 3 0 0 0 0 := by
    refine ⟨⟨⟨rfl, by omega, by omega, fun k hk => ⟨4, by omega, by omega, ?_⟩⟩, rfl, by omega, rfl, by omega, rfl, rfl⟩, rfl, fun c hc => by omega, fun t ht => by omega⟩
    rcases (show k = 0 ∨ k = 1 ∨ k = 2 ∨ k = 3 ∨ k = 4 ∨ k = 5 by omega) with rfl | rfl | rfl | rfl | rfl | rfl <;> rfl
  have hA : Ag 0 0 0 (rstS (fun _ => 0) 3) (s0 6) := by
    intro i h
    have h13 : i < 13 := by unfold liveQ at h; omega
    rcases (show i = 0 ∨ i = 1 ∨ i = 2 ∨ i = 3 ∨ i = 4 ∨ i = 5 ∨ i = 6 ∨ i = 7 ∨ i = 8 ∨ i = 9 ∨ i = 10 ∨ i = 11 ∨ i = 12 by omega) with rfl | rfl | rfl | rfl | rfl | rfl | rfl | rfl | rfl | rfl | rfl | rfl | rfl <;> rfl
  exact ⟨⟨3, 0, 0, 0, 0, hI, by omega, hA⟩, ⟨by show 0 < 4; omega, by show 0 ≤ 4; omega, rfl⟩, ⟨by show 0 ≤ 100; omega, rfl, rfl⟩, fun i hi => absurd hi (Nat.not_lt_zero i)⟩
/-- the law's locals -/
def lLo (b D i : Nat) : Lo := [some (.ref b), some (.ref D), some (.ref (D + 141)), some (.ref (D + 148)), some (.int (nI i)), none, none, none, none]
/-- the law goes on at pc from any state in which the two hold the same -/
def GoOn (E : EE) (Γ : Cx) (b D i k n pc : Nat) (w0 : Nat → Option va_E) : Prop := ∀ (d : DR) (r : MR) (t : St) (nh : Nat) (g : Nat → Int64), Rel d r t → V E Γ k n pc (lLo b D i) [] (sW E D d r t nh g w0)
theorem nle5 {N i : Nat} (hN : N < 2 ^ 30) (hi : i < 2 ^ 30) (h : ¬ nI N - 5 < nI i) : i + 5 ≤ N := by
  by_cases q : 5 ≤ N
  · rw [show nI N - 5 = nI (N - 5) from pk_sub (a := N) (b := 5) q] at h
    rcases Nat.lt_or_ge (N - 5) i with z | z
    · exact absurd (nI_lt z (by omega)) h
    · omega
  · exfalso
    apply h
    have hs : nI N - 5 < 0 := by
      rcases (show N = 0 ∨ N = 1 ∨ N = 2 ∨ N = 3 ∨ N = 4 by omega) with rfl | rfl | rfl | rfl | rfl <;> decide
    exact Int32.lt_of_lt_of_le hs (nlt_le (nI_pos (by omega)))
