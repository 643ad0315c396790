/-! THE CLASS'S OBJECT AT D, THE LAW'S ROWS AT D + 141 .. D + 144, BESIDE EACH OTHER -/
theorem V.nx {E : EE} {Γ : Cx} {k n k' n' pc : Nat} {L : Lo} {st : List Value} {w w' : Wo} (hk : k ≤ k') (hn : n ≤ n') (hw : w = w') (kk : V E Γ k' n' pc L st w') : V E Γ k n pc L st w := by
  subst hw
  obtain ⟨p, e, R, s, m, args, below, meth, c, Q⟩ := Γ
  exact fun H locs ls hP hS hl => W.widen hk hn (kk H locs ls hP hS hl)
section DLW
variable {E : EE} {D : Nat} {S0 S1 S0' S1' R : St} {Sv Sv' : Nat → St} {sc se tl sc' se' tl' : Int32} {tx tx' : St} {w : Wo}
theorem dl_lw : dl E D S0 S1 Sv sc se tl tx (lw E (D + 141) R w) = lw E (D + 141) R (dl E D S0 S1 Sv sc se tl tx w) := by
  refine Prod.ext rfl (funext fun a => ?_)
  by_cases h1 : a < D ∨ D + 141 ≤ a
  · rw [dl_out h1]
    by_cases h2 : a < D + 141 ∨ D + 141 + 4 ≤ a
    · rw [lw_out h2, lw_out h2, dl_out h1]
    · obtain ⟨o, rfl⟩ : ∃ o, a = D + 141 + o := ⟨a - (D + 141), by omega⟩
      rw [lw_at o (by omega), lw_at o (by omega)]
  · have h2 : a < D + 141 ∨ D + 141 + 4 ≤ a := by omega
    obtain ⟨o, rfl⟩ : ∃ o, a = D + o := ⟨a - D, by omega⟩
    rw [dl_at o (by omega), lw_out h2, dl_at o (by omega)]
theorem Cd.lw {M : MI} {as : List Value} {r : Option Value} (h : ∀ w, Cd E M (dl E D S0 S1 Sv sc se tl tx w) as r (dl E D S0' S1' Sv' sc' se' tl' tx' w)) : Cd E M (lw E (D + 141) R (dl E D S0 S1 Sv sc se tl tx w)) as r (lw E (D + 141) R (dl E D S0' S1' Sv' sc' se' tl' tx' w)) := by
  rw [← dl_lw, ← dl_lw]
  exact h _
theorem Cthr.lw {M : MI} {as : List Value} {X : String} (h : ∀ w, Cthr E M (dl E D S0 S1 Sv sc se tl tx w) as X) : Cthr E M (lw E (D + 141) R (dl E D S0 S1 Sv sc se tl tx w)) as X := by
  rw [← dl_lw]
  exact h _
theorem hD_lw : (lw E (D + 141) R (dl E D S0 S1 Sv sc se tl tx w)).2 D = some (.inr (3, drF D sc se tl)) := (lw_out (by omega)).trans dl_dr
end DLW
/-- what the class's numbers S0 and the law's R have in common; ks, e: how many states are saved, and where the next goes -/
def Rl (S0 R : St) (ks e nc nt ne m : Nat) : Prop := Inv R 3 nc nt ne m ∧ J2 R nc nt ∧ nc ≤ 8 ∧ m ≤ 5000 ∧ Ag nc nt ne S0 R ∧ e < 4 ∧ ks ≤ 4
theorem ks4 {ks : Nat} : min 4 (ks + 1) ≤ 4 := by omega
theorem e4' {e : Nat} : (e + 1) % 4 < 4 := Nat.mod_lt _ (by omega)
theorem low_lt {v : Int32} {n : Nat} (h : 0 < n) : lowN v n < n := Nat.mod_lt _ h
/-- the row of numbers with the first j of a team's new ones set to 0 -/
def zr (R : St) (t j : Nat) : St := fun i => if 125 + 8 * t ≤ i ∧ i < 125 + 8 * t + j then 0 else R i
theorem zr_0 {R : St} {t : Nat} : zr R t 0 = R := by
  funext i
  unfold zr
  rw [if_neg (by omega)]
theorem zr_s {R : St} {t j : Nat} : upd (zr R t j) (125 + 8 * t + j) 0 = zr R t (j + 1) := by
  funext i
  show (if i = 125 + 8 * t + j then 0 else zr R t j i) = zr R t (j + 1) i
  unfold zr
  by_cases h : i = 125 + 8 * t + j
  · rw [if_pos h, if_pos (by omega)]
  · rw [if_neg h]
    by_cases h2 : 125 + 8 * t ≤ i ∧ i < 125 + 8 * t + j
    · rw [if_pos h2, if_pos (by omega)]
    · rw [if_neg h2, if_neg (by omega)]
theorem zr_in {R : St} {t k : Nat} (hk : k < 8) : zr R t 8 (125 + 8 * t + k) = 0 := if_pos (by omega)
theorem zr_out {R : St} {t i : Nat} (h : i < 125 + 8 * t ∨ 125 + 8 * t + 8 ≤ i) : zr R t 8 i = R i := if_neg (by omega)
theorem ld14 {a0 a1 a2 a3 a4 a5 a6 a7 a8 a9 a10 a11 a12 a13 a14 : Option Value} {r : Lo} : (a0 :: a1 :: a2 :: a3 :: a4 :: a5 :: a6 :: a7 :: a8 :: a9 :: a10 :: a11 :: a12 :: a13 :: a14 :: r)[14]? = some a14 := rfl
theorem so14 {a0 a1 a2 a3 a4 a5 a6 a7 a8 a9 a10 a11 a12 a13 a14 : Option Value} {r : Lo} {v : Value} (h : c1 a13 = true) : stOK (a0 :: a1 :: a2 :: a3 :: a4 :: a5 :: a6 :: a7 :: a8 :: a9 :: a10 :: a11 :: a12 :: a13 :: a14 :: r) 14 v (a0 :: a1 :: a2 :: a3 :: a4 :: a5 :: a6 :: a7 :: a8 :: a9 :: a10 :: a11 :: a12 :: a13 :: some v :: r) := st_set (L := a0 :: a1 :: a2 :: a3 :: a4 :: a5 :: a6 :: a7 :: a8 :: a9 :: a10 :: a11 :: a12 :: a13 :: a14 :: r) (i := 14) (fun j hj x hx => by cases (Nat.succ.inj hj : j = 13); cases (Option.some.inj hx); exact h)
theorem ld15 {a0 a1 a2 a3 a4 a5 a6 a7 a8 a9 a10 a11 a12 a13 a14 a15 : Option Value} {r : Lo} : (a0 :: a1 :: a2 :: a3 :: a4 :: a5 :: a6 :: a7 :: a8 :: a9 :: a10 :: a11 :: a12 :: a13 :: a14 :: a15 :: r)[15]? = some a15 := rfl
theorem so15 {a0 a1 a2 a3 a4 a5 a6 a7 a8 a9 a10 a11 a12 a13 a14 a15 : Option Value} {r : Lo} {v : Value} (h : c1 a14 = true) : stOK (a0 :: a1 :: a2 :: a3 :: a4 :: a5 :: a6 :: a7 :: a8 :: a9 :: a10 :: a11 :: a12 :: a13 :: a14 :: a15 :: r) 15 v (a0 :: a1 :: a2 :: a3 :: a4 :: a5 :: a6 :: a7 :: a8 :: a9 :: a10 :: a11 :: a12 :: a13 :: a14 :: some v :: r) := st_set (L := a0 :: a1 :: a2 :: a3 :: a4 :: a5 :: a6 :: a7 :: a8 :: a9 :: a10 :: a11 :: a12 :: a13 :: a14 :: a15 :: r) (i := 15) (fun j hj x hx => by cases (Nat.succ.inj hj : j = 14); cases (Option.some.inj hx); exact h)
theorem ld16 {a0 a1 a2 a3 a4 a5 a6 a7 a8 a9 a10 a11 a12 a13 a14 a15 a16 : Option Value} {r : Lo} : (a0 :: a1 :: a2 :: a3 :: a4 :: a5 :: a6 :: a7 :: a8 :: a9 :: a10 :: a11 :: a12 :: a13 :: a14 :: a15 :: a16 :: r)[16]? = some a16 := rfl
theorem so16 {a0 a1 a2 a3 a4 a5 a6 a7 a8 a9 a10 a11 a12 a13 a14 a15 a16 : Option Value} {r : Lo} {v : Value} (h : c1 a15 = true) : stOK (a0 :: a1 :: a2 :: a3 :: a4 :: a5 :: a6 :: a7 :: a8 :: a9 :: a10 :: a11 :: a12 :: a13 :: a14 :: a15 :: a16 :: r) 16 v (a0 :: a1 :: a2 :: a3 :: a4 :: a5 :: a6 :: a7 :: a8 :: a9 :: a10 :: a11 :: a12 :: a13 :: a14 :: a15 :: some v :: r) := st_set (L := a0 :: a1 :: a2 :: a3 :: a4 :: a5 :: a6 :: a7 :: a8 :: a9 :: a10 :: a11 :: a12 :: a13 :: a14 :: a15 :: a16 :: r) (i := 16) (fun j hj x hx => by cases (Nat.succ.inj hj : j = 15); cases (Option.some.inj hx); exact h)
theorem ld17 {a0 a1 a2 a3 a4 a5 a6 a7 a8 a9 a10 a11 a12 a13 a14 a15 a16 a17 : Option Value} {r : Lo} : (a0 :: a1 :: a2 :: a3 :: a4 :: a5 :: a6 :: a7 :: a8 :: a9 :: a10 :: a11 :: a12 :: a13 :: a14 :: a15 :: a16 :: a17 :: r)[17]? = some a17 := rfl
theorem so17 {a0 a1 a2 a3 a4 a5 a6 a7 a8 a9 a10 a11 a12 a13 a14 a15 a16 a17 : Option Value} {r : Lo} {v : Value} (h : c1 a16 = true) : stOK (a0 :: a1 :: a2 :: a3 :: a4 :: a5 :: a6 :: a7 :: a8 :: a9 :: a10 :: a11 :: a12 :: a13 :: a14 :: a15 :: a16 :: a17 :: r) 17 v (a0 :: a1 :: a2 :: a3 :: a4 :: a5 :: a6 :: a7 :: a8 :: a9 :: a10 :: a11 :: a12 :: a13 :: a14 :: a15 :: a16 :: some v :: r) := st_set (L := a0 :: a1 :: a2 :: a3 :: a4 :: a5 :: a6 :: a7 :: a8 :: a9 :: a10 :: a11 :: a12 :: a13 :: a14 :: a15 :: a16 :: a17 :: r) (i := 17) (fun j hj x hx => by cases (Nat.succ.inj hj : j = 16); cases (Option.some.inj hx); exact h)
def aT (c : Nat) : Nat := if c < 2 then 108 else if c < 4 then 165 else if c < 6 then 265 else if c < 8 then 380 else if c < 13 then 519 else 623
set_option maxRecDepth 100000 in
set_option maxHeartbeats 4000000 in
theorem a_pre {E : EE} {Γ : Cx} {D n : Nat} {S0 S1 R : St} {Sv : Nat → St} {ks e nc nt ne m v c0 cs : Nat} {F : Nat → Option va_E} {z : Int32} (h : OkB E Γ mL_acts RL) (hI : Inv R 3 nc nt ne m) (hv : v = lowN (z >>> (5 &&& 31)) 10000000) (hc0 : c0 = if nc = 0 then 0 else v % nc) (hcs : cs = lowN z 20) (kk : V E Γ 0 0 (aT cs) [some (.ref D), some (.ref (D + 141)), some (.ref (D + 141 + 1)), some (.ref (D + 141 + 2)), some (.ref (D + 141 + 3)), some (.int z), some (.int (nI v)), some (.int (nI nc)), some (.int (nI c0)), none, none, none, none, none, none, none, none, none] [] (lw E (D + 141) R (dl E D S0 S1 Sv (nI ks) (nI e) 0 (fun _ => 0) (n, F)))) : V E Γ 0 0 0 [some (.ref D), some (.ref (D + 141)), some (.ref (D + 141 + 1)), some (.ref (D + 141 + 2)), some (.ref (D + 141 + 3)), some (.int z), none, none, none, none, none, none, none, none, none, none, none, none] [] (lw E (D + 141) R (dl E D S0 S1 Sv (nI ks) (nI e) 0 (fun _ => 0) (n, F))) := by
  have hn := hI.n14
  have hvl : v < 10000000 := by rw [hv]; exact low_lt (by omega)
  have hcl : cs < 20 := by rw [hcs]; exact low_lt (by omega)
  refine v_iload (i := 5) h 0 2 dL_acts_0 rfl ld5 ?_
  refine v_iconst (v := 5) h 2 3 dL_acts_2 rfl (by decide) ?_
  refine v_ishr h 3 4 dL_acts_3 rfl ?_
  refine v_ldc h 4 6 dL_acts_4 rfl kc_L_23 ?_
  refine v_callS1 h 6 9 dL_acts_6 rfl cb_L_low cs_L_low lk_L_24 (rok (by decide) (by decide)) ⟨rfl, rfl⟩ ⟨Nat.zero_le _, Nat.zero_le _⟩ (k_low _ (n := 10000000) (by omega) (by omega)) rfl rfl (Nat.le_of_ble_eq_true rfl) ?_
  rw [← hv]
  refine v_istore (i := 6) h 9 11 dL_acts_9 rfl (by decide) (so6 rfl) ?_
  refine v_aload_n (i := 1) h 11 12 dL_acts_11 rfl rfl ld1 ?_
  refine v_bipush (v := nI 7) h 12 14 dL_acts_12 rfl (by decide) ?_
  refine v_ldG h 14 15 7 dL_acts_14 rfl (by omega) ?_
  rw [hI.c7]
  refine v_istore (i := 7) h 15 17 dL_acts_15 rfl (by decide) (so7 rfl) ?_
  refine v_iload (i := 7) h 17 19 dL_acts_17 rfl ld7 ?_
  have k31 : V E Γ 0 0 31 [some (.ref D), some (.ref (D + 141)), some (.ref (D + 141 + 1)), some (.ref (D + 141 + 2)), some (.ref (D + 141 + 3)), some (.int z), some (.int (nI v)), some (.int (nI nc)), none, none, none, none, none, none, none, none, none, none] [.int (nI c0)] (lw E (D + 141) R (dl E D S0 S1 Sv (nI ks) (nI e) 0 (fun _ => 0) (n, F))) := by
    refine v_istore (i := 8) h 31 33 dL_acts_31 rfl (by decide) (so8 rfl) ?_
    refine v_iload (i := 5) h 33 35 dL_acts_33 rfl ld5 ?_
    refine v_bipush (v := nI 20) h 35 37 dL_acts_35 rfl (by decide) ?_
    refine v_callS1 h 37 40 dL_acts_37 rfl cb_L_low cs_L_low lk_L_24 (rok (by decide) (by decide)) ⟨rfl, rfl⟩ ⟨Nat.zero_le _, Nat.zero_le _⟩ (k_low _ (by omega) (by omega)) rfl rfl (Nat.le_of_ble_eq_true rfl) ?_
    rw [← hcs]
    rcases (show cs = 0 ∨ cs = 1 ∨ cs = 2 ∨ cs = 3 ∨ cs = 4 ∨ cs = 5 ∨ cs = 6 ∨ cs = 7 ∨ cs = 8 ∨ cs = 9 ∨ cs = 10 ∨ cs = 11 ∨ cs = 12 ∨ cs = 13 ∨ cs = 14 ∨ cs = 15 ∨ cs = 16 ∨ cs = 17 ∨ cs = 18 ∨ cs = 19 by omega) with rfl | rfl | rfl | rfl | rfl | rfl | rfl | rfl | rfl | rfl | rfl | rfl | rfl | rfl | rfl | rfl | rfl | rfl | rfl | rfl
    · exact v_tableIn h 40 108 dL_acts_40 (by decide) (by decide) (off := 68) (by decide) (by decide) (V.weakT kk (And.intro rfl (And.intro rfl (And.intro rfl (And.intro rfl (And.intro rfl (And.intro rfl (And.intro rfl (And.intro rfl (And.intro rfl trivial))))))))))
    · exact v_tableIn h 40 108 dL_acts_40 (by decide) (by decide) (off := 68) (by decide) (by decide) (V.weakT kk (And.intro rfl (And.intro rfl (And.intro rfl (And.intro rfl (And.intro rfl (And.intro rfl (And.intro rfl (And.intro rfl (And.intro rfl trivial))))))))))
    · exact v_tableIn h 40 165 dL_acts_40 (by decide) (by decide) (off := 125) (by decide) (by decide) (V.weakT kk (And.intro rfl (And.intro rfl (And.intro rfl (And.intro rfl (And.intro rfl (And.intro rfl (And.intro rfl (And.intro rfl (And.intro rfl trivial))))))))))
    · exact v_tableIn h 40 165 dL_acts_40 (by decide) (by decide) (off := 125) (by decide) (by decide) (V.weakT kk (And.intro rfl (And.intro rfl (And.intro rfl (And.intro rfl (And.intro rfl (And.intro rfl (And.intro rfl (And.intro rfl (And.intro rfl trivial))))))))))
    · exact v_tableIn h 40 265 dL_acts_40 (by decide) (by decide) (off := 225) (by decide) (by decide) (V.weakT kk (And.intro rfl (And.intro rfl (And.intro rfl (And.intro rfl (And.intro rfl (And.intro rfl (And.intro rfl (And.intro rfl (And.intro rfl trivial))))))))))
    · exact v_tableIn h 40 265 dL_acts_40 (by decide) (by decide) (off := 225) (by decide) (by decide) (V.weakT kk (And.intro rfl (And.intro rfl (And.intro rfl (And.intro rfl (And.intro rfl (And.intro rfl (And.intro rfl (And.intro rfl (And.intro rfl trivial))))))))))
    · exact v_tableIn h 40 380 dL_acts_40 (by decide) (by decide) (off := 340) (by decide) (by decide) (V.weakT kk (And.intro rfl (And.intro rfl (And.intro rfl (And.intro rfl (And.intro rfl (And.intro rfl (And.intro rfl (And.intro rfl (And.intro rfl trivial))))))))))
    · exact v_tableIn h 40 380 dL_acts_40 (by decide) (by decide) (off := 340) (by decide) (by decide) (V.weakT kk (And.intro rfl (And.intro rfl (And.intro rfl (And.intro rfl (And.intro rfl (And.intro rfl (And.intro rfl (And.intro rfl (And.intro rfl trivial))))))))))
    · exact v_tableIn h 40 519 dL_acts_40 (by decide) (by decide) (off := 479) (by decide) (by decide) (V.weakT kk (And.intro rfl (And.intro rfl (And.intro rfl (And.intro rfl (And.intro rfl (And.intro rfl (And.intro rfl (And.intro rfl (And.intro rfl trivial))))))))))
    · exact v_tableIn h 40 519 dL_acts_40 (by decide) (by decide) (off := 479) (by decide) (by decide) (V.weakT kk (And.intro rfl (And.intro rfl (And.intro rfl (And.intro rfl (And.intro rfl (And.intro rfl (And.intro rfl (And.intro rfl (And.intro rfl trivial))))))))))
    · exact v_tableIn h 40 519 dL_acts_40 (by decide) (by decide) (off := 479) (by decide) (by decide) (V.weakT kk (And.intro rfl (And.intro rfl (And.intro rfl (And.intro rfl (And.intro rfl (And.intro rfl (And.intro rfl (And.intro rfl (And.intro rfl trivial))))))))))
    · exact v_tableIn h 40 519 dL_acts_40 (by decide) (by decide) (off := 479) (by decide) (by decide) (V.weakT kk (And.intro rfl (And.intro rfl (And.intro rfl (And.intro rfl (And.intro rfl (And.intro rfl (And.intro rfl (And.intro rfl (And.intro rfl trivial))))))))))
    · exact v_tableIn h 40 519 dL_acts_40 (by decide) (by decide) (off := 479) (by decide) (by decide) (V.weakT kk (And.intro rfl (And.intro rfl (And.intro rfl (And.intro rfl (And.intro rfl (And.intro rfl (And.intro rfl (And.intro rfl (And.intro rfl trivial))))))))))
    · exact v_tableOut h 40 623 dL_acts_40 (by decide) (by decide) (V.weakT kk (And.intro rfl (And.intro rfl (And.intro rfl (And.intro rfl (And.intro rfl (And.intro rfl (And.intro rfl (And.intro rfl (And.intro rfl trivial))))))))))
    · exact v_tableOut h 40 623 dL_acts_40 (by decide) (by decide) (V.weakT kk (And.intro rfl (And.intro rfl (And.intro rfl (And.intro rfl (And.intro rfl (And.intro rfl (And.intro rfl (And.intro rfl (And.intro rfl trivial))))))))))
    · exact v_tableOut h 40 623 dL_acts_40 (by decide) (by decide) (V.weakT kk (And.intro rfl (And.intro rfl (And.intro rfl (And.intro rfl (And.intro rfl (And.intro rfl (And.intro rfl (And.intro rfl (And.intro rfl trivial))))))))))
    · exact v_tableOut h 40 623 dL_acts_40 (by decide) (by decide) (V.weakT kk (And.intro rfl (And.intro rfl (And.intro rfl (And.intro rfl (And.intro rfl (And.intro rfl (And.intro rfl (And.intro rfl (And.intro rfl trivial))))))))))
    · exact v_tableOut h 40 623 dL_acts_40 (by decide) (by decide) (V.weakT kk (And.intro rfl (And.intro rfl (And.intro rfl (And.intro rfl (And.intro rfl (And.intro rfl (And.intro rfl (And.intro rfl (And.intro rfl trivial))))))))))
    · exact v_tableOut h 40 623 dL_acts_40 (by decide) (by decide) (V.weakT kk (And.intro rfl (And.intro rfl (And.intro rfl (And.intro rfl (And.intro rfl (And.intro rfl (And.intro rfl (And.intro rfl (And.intro rfl trivial))))))))))
    · exact v_tableOut h 40 623 dL_acts_40 (by decide) (by decide) (V.weakT kk (And.intro rfl (And.intro rfl (And.intro rfl (And.intro rfl (And.intro rfl (And.intro rfl (And.intro rfl (And.intro rfl (And.intro rfl trivial))))))))))
  by_cases h0 : nc = 0
  · refine v_if_ne h 19 22 26 dL_acts_19 rfl (by decide) (fun h19 => absurd (congrArg nI h0) h19) (fun h19 => ?_)
    refine v_iconst (v := 0) h 22 23 dL_acts_22 rfl (by decide) ?_
    refine v_goto h 23 31 dL_acts_23 (by decide) ?_
    rw [if_pos h0] at hc0
    rw [hc0] at k31
    exact k31
  · refine v_if_ne h 19 22 26 dL_acts_19 rfl (by decide) (fun h19 => ?_) (fun h19 => absurd (nI_inj (b := 0) (by omega) (by omega) h19) h0)
    refine v_iload (i := 6) h 26 28 dL_acts_26 rfl ld6 ?_
    refine v_iload (i := 7) h 28 30 dL_acts_28 rfl ld7 ?_
    refine v_iremN h 30 31 dL_acts_30 rfl (by omega) (by omega) (by omega) ?_
    rw [if_neg h0] at hc0
    rw [← hc0]
    exact k31

