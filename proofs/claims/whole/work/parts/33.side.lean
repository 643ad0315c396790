/-! THE TWO SIDE BY SIDE, AND THE ROW FOR THE ANSWER -/
abbrev DR : Type := St × St × (Nat → St) × Nat × Nat × Nat × St
abbrev MR : Type := St × (Nat → St) × St × St × St × St × Int64
def ow (E : EE) (O n : Nat) (g : Nat → Int64) (w0 : Nat → Option va_E) : Wo := (n, fun q => if q = O then some (.inl (gJ E, 1, .inr (.inl g))) else w0 q)
def dW (E : EE) (D : Nat) (d : DR) (w : Wo) : Wo := dl E D d.1 d.2.1 d.2.2.1 (nI d.2.2.2.1) (nI d.2.2.2.2.1) (nI d.2.2.2.2.2.1) d.2.2.2.2.2.2 w
def mW (E : EE) (M : Nat) (r : MR) (t : St) (w : Wo) : Wo := ml E M r.1 r.2.1 r.2.2.1 r.2.2.2.1 t r.2.2.2.2.1 r.2.2.2.2.2.1 r.2.2.2.2.2.2 w
def sW (E : EE) (D : Nat) (d : DR) (r : MR) (t : St) (n : Nat) (g : Nat → Int64) (w0 : Nat → Option va_E) : Wo := dW E D d (mW E (D + 141) r t (ow E (D + 148) n g w0))
theorem dm_comm {E : EE} {D : Nat} {d : DR} {r : MR} {t : St} {w : Wo} : dW E D d (mW E (D + 141) r t w) = mW E (D + 141) r t (dW E D d w) := by
  refine Prod.ext rfl (funext fun a => ?_)
  by_cases h1 : a < D ∨ D + 141 ≤ a
  · unfold dW
    rw [dl_out h1]
    unfold mW
    by_cases h2 : a < D + 141 ∨ D + 141 + 7 ≤ a
    · rw [ml_out h2, ml_out h2, dl_out h1]
    · obtain ⟨o, rfl⟩ : ∃ o, a = D + 141 + o := ⟨a - (D + 141), by omega⟩
      rw [ml_at o (by omega), ml_at o (by omega)]
  · have h2 : a < D + 141 ∨ D + 141 + 7 ≤ a := by omega
    obtain ⟨o, rfl⟩ : ∃ o, a = D + o := ⟨a - D, by omega⟩
    unfold dW mW
    rw [dl_at o (by omega), ml_out h2, dl_at o (by omega)]
theorem sW_ml {E : EE} {D : Nat} {d : DR} {r : MR} {t : St} {n : Nat} {g : Nat → Int64} {w0 : Nat → Option va_E} : sW E D d r t n g w0 = mW E (D + 141) r t (dW E D d (ow E (D + 148) n g w0)) := dm_comm
theorem sW_o {E : EE} {D : Nat} {d : DR} {r : MR} {t : St} {n : Nat} {g : Nat → Int64} {w0 : Nat → Option va_E} : (sW E D d r t n g w0).2 (D + 148) = some (.inl (gJ E, 1, .inr (.inl g))) := by
  unfold sW dW mW
  rw [dl_out (by omega), ml_out (by omega)]
  exact if_pos rfl
theorem sW_d {E : EE} {D : Nat} {d : DR} {r : MR} {t : St} {n : Nat} {g : Nat → Int64} {w0 : Nat → Option va_E} : (sW E D d r t n g w0).2 D = some (.inr (3, drF D (nI d.2.2.2.1) (nI d.2.2.2.2.1) (nI d.2.2.2.2.2.1))) := dl_dr
theorem sW_m {E : EE} {D : Nat} {d : DR} {r : MR} {t : St} {n : Nat} {g : Nat → Int64} {w0 : Nat → Option va_E} : (sW E D d r t n g w0).2 (D + 141) = some (.inr (4, mdF (D + 141) r.2.2.2.2.2.1 r.2.2.2.2.2.2)) := by
  rw [sW_ml]
  exact ml_ob
theorem sW_up {E : EE} {D : Nat} {d : DR} {r : MR} {t : St} {n : Nat} {g g' : Nat → Int64} {w0 : Nat → Option va_E} : wup (sW E D d r t n g w0) (D + 148) (.inl (gJ E, 1, .inr (.inl g'))) = sW E D d r t n g' w0 := by
  refine Prod.ext rfl (funext fun a => ?_)
  show (if a = D + 148 then _ else _) = _
  by_cases h : a = D + 148
  · subst h
    rw [if_pos rfl, sW_o]
  · rw [if_neg h]
    unfold sW dW
    by_cases h1 : a < D ∨ D + 141 ≤ a
    · rw [dl_out h1, dl_out h1]
      unfold mW
      by_cases h2 : a < D + 141 ∨ D + 141 + 7 ≤ a
      · rw [ml_out h2, ml_out h2]
        show (if a = D + 148 then _ else w0 a) = if a = D + 148 then _ else w0 a
        rw [if_neg h, if_neg h]
      · obtain ⟨o, rfl⟩ : ∃ o, a = D + 141 + o := ⟨a - (D + 141), by omega⟩
        rw [ml_at o (by omega), ml_at o (by omega)]
    · obtain ⟨o, rfl⟩ : ∃ o, a = D + o := ⟨a - D, by omega⟩
      rw [dl_at o (by omega), dl_at o (by omega)]
theorem sW_n {E : EE} {D : Nat} {d : DR} {r : MR} {t : St} {n n2 : Nat} {g : Nat → Int64} {w0 : Nat → Option va_E} : (n2, (sW E D d r t n g w0).2) = sW E D d r t n2 g w0 := rfl
/-! what they hold in common -/
def Ok (S0 S : St) : Prop := ∃ sp nc nt ne m, Inv S sp nc nt ne m ∧ m ≤ 5000 ∧ Ag nc nt ne S0 S
def SvR (Sv : Nat → St) (e ks : Nat) (Ps : Nat → St) : Prop := ∀ i, i < ks → Ok (Sv ((e + 3 - i) % 4)) (Ps (ks - 1 - i))
def Rel (d : DR) (r : MR) (t : St) : Prop := Ok d.1 r.1 ∧ (d.2.2.2.2.1 < 4 ∧ d.2.2.2.1 ≤ 4 ∧ r.2.2.2.2.2.1 0 = nI d.2.2.2.1) ∧ (d.2.2.2.2.2.1 ≤ 100 ∧ r.2.2.2.2.2.1 1 = nI d.2.2.2.2.2.1 ∧ d.2.2.2.2.2.2 = t) ∧ SvR d.2.2.1 d.2.2.2.2.1 d.2.2.2.1 r.2.1
theorem rel_I {S0 S1 S1' : St} {Sv : Nat → St} {ks e tn : Nat} {tx S : St} {Ps : Nat → St} {A K N I A' K' N' I' t : St} {hh hh' : Int64} (h : Rel (S0, S1, Sv, ks, e, tn, tx) (S, Ps, A, K, N, I, hh) t) (h0 : I' 0 = I 0) (h1 : I' 1 = I 1) : Rel (S0, S1', Sv, ks, e, tn, tx) (S, Ps, A', K', N', I', hh') t :=
  ⟨h.1, ⟨h.2.1.1, h.2.1.2.1, h0.trans h.2.1.2.2⟩, ⟨h.2.2.1.1, h1.trans h.2.2.1.2.1, h.2.2.1.2.2⟩, h.2.2.2⟩
theorem svr_save {Sv : Nat → St} {e ks : Nat} {Ps : Nat → St} {S0 S : St} {sp nc nt ne m : Nat} (h : SvR Sv e ks Ps) (he : e < 4) (hks : ks ≤ 4) (hI : Inv S sp nc nt ne m) (hm : m ≤ 5000) (hA : Ag nc nt ne S0 S) : SvR (va_up Sv e (cpS (Sv e) S0 nc nt)) ((e + 1) % 4) (min 4 (ks + 1)) (psh Ps S ks) := by
  intro i hi
  by_cases i0 : i = 0
  · subst i0
    have e1 : ((e + 1) % 4 + 3 - 0) % 4 = e := by omega
    have e2 : psh Ps S ks (min 4 (ks + 1) - 1 - 0) = S := by
      unfold psh
      by_cases q : ks = 4
      · subst q
        rw [if_pos rfl]
        rfl
      · rw [if_neg q, show min 4 (ks + 1) - 1 - 0 = ks by omega]
        exact if_pos rfl
    rw [e1, e2]
    refine ⟨sp, nc, nt, ne, m, hI, hm, ?_⟩
    rw [show va_up Sv e (cpS (Sv e) S0 nc nt) e = cpS (Sv e) S0 nc nt from if_pos rfl]
    exact (cp_ag (by have := hI.nle; have := hI.n14; omega)).trans hA
  · obtain ⟨j, rfl⟩ : ∃ j, i = j + 1 := ⟨i - 1, by omega⟩
    have e1 : ((e + 1) % 4 + 3 - (j + 1)) % 4 = (e + 3 - j) % 4 := by omega
    have e3 : (e + 3 - j) % 4 ≠ e := by omega
    have e2 : psh Ps S ks (min 4 (ks + 1) - 1 - (j + 1)) = Ps (ks - 1 - j) := by
      unfold psh
      by_cases q : ks = 4
      · subst q
        rw [if_pos rfl]
        show (if min 4 (4 + 1) - 1 - (j + 1) < 3 then Ps (min 4 (4 + 1) - 1 - (j + 1) + 1) else S) = _
        rw [if_pos (by omega), show min 4 (4 + 1) - 1 - (j + 1) + 1 = 4 - 1 - j by omega]
      · rw [if_neg q, show min 4 (ks + 1) - 1 - (j + 1) = ks - 1 - j by omega]
        exact if_neg (by omega)
    rw [e1, e2, show va_up Sv e (cpS (Sv e) S0 nc nt) ((e + 3 - j) % 4) = Sv ((e + 3 - j) % 4) from if_neg e3]
    exact h j (by omega)
theorem svr_undo {Sv : Nat → St} {e p : Nat} {Ps : Nat → St} (h : SvR Sv e (p + 1) Ps) (he : e < 4) (hp : p < 4) : SvR Sv ((e + 3) % 4) p Ps := by
  intro i hi
  have := h (i + 1) (by omega)
  rw [show (e + 3 - (i + 1)) % 4 = ((e + 3) % 4 + 3 - i) % 4 by omega, show p + 1 - 1 - (i + 1) = p - 1 - i by omega] at this
  exact this
theorem rel_end {S0 S1 S1' S0' : St} {Sv : Nat → St} {ks e tn : Nat} {tx S S' : St} {Ps : Nat → St} {A K N I A' K' N' I' t : St} {hh hh' : Int64} {sp nc nt ne m : Nat} (h : Rel (S0, S1, Sv, ks, e, tn, tx) (S, Ps, A, K, N, I, hh) t) (hI : Inv S sp nc nt ne m) (hm : m ≤ 5000) (hA : Ag nc nt ne S0 S) (hOk : Ok S0' S') (h0 : I' 0 = nI (min 4 (ks + 1))) (h1 : I' 1 = I 1) : Rel (S0', S1', va_up Sv e (cpS (Sv e) S0 nc nt), min 4 (ks + 1), (e + 1) % 4, tn, tx) (S', psh Ps S ks, A', K', N', I', hh') t :=
  ⟨hOk, ⟨by show (e + 1) % 4 < 4; omega, by show min 4 (ks + 1) ≤ 4; omega, h0⟩, ⟨h.2.2.1.1, h1.trans h.2.2.1.2.1, h.2.2.1.2.2⟩, svr_save h.2.2.2 h.2.1.1 h.2.1.2.1 hI hm hA⟩
theorem idx {x : Int32} {b : Nat} (hb : b < 2 ^ 30) (h1 : ¬ x < 0) (h2 : ¬ nI b ≤ x) : ∃ c, c < b ∧ x = nI c := by
  rw [Int32.lt_iff_toInt_lt] at h1
  rw [Int32.le_iff_toInt_le, nI_toInt (by omega)] at h2
  rw [show (0 : Int32).toInt = 0 from rfl] at h1
  refine ⟨x.toInt.toNat, by omega, ?_⟩
  apply Int32.toInt_inj.mp
  rw [nI_toInt (by omega)]
  omega
/-- an operation that the law calls by a helper -/
def OPR (E : EE) (D : Nat) (ML : MI) (hl : HH) (MX : MI) (args : List Value) (d : DR) (r : MR) (t : St) (n : Nat) (g : Nat → Int64) (w0 : Nat → Option va_E) : Prop :=
  ∃ (c x : Int32) (g' : Nat → Int64) (d' : DR) (r' : MR) (t' : St), Ch E ML hl (sW E D d r t n g w0) (.ref D :: (args ++ [.ref (D + 148)])) c (sW E D d' r t n g' w0) ∧ (∀ n2, Cd E MX (sW E D d' r t n2 g' w0) (.ref (D + 141) :: args) (some (.int x)) (sW E D d' r' t' n2 g' w0)) ∧ r'.2.2.2.2.2.1 2 = c ∧ (c = 0 → g' 0 = x.toInt64) ∧ Rel d' r' t'
theorem OPR.thr {E : EE} {D : Nat} {ML : MI} {hl : HH} {MX : MI} {args : List Value} {d : DR} {S : St} {Ps : Nat → St} {A K N I t : St} {hh : Int64} {n : Nat} {g : Nat → Int64} {w0 : Nat → Option va_E} {c : Int32} (hR : Rel d (S, Ps, A, K, N, I, hh) t) (hc : ¬ c = 0) (h1 : Ch E ML hl (sW E D d (S, Ps, A, K, N, I, hh) t n g w0) (.ref D :: (args ++ [.ref (D + 148)])) c (sW E D d (S, Ps, A, K, N, I, hh) t n g w0)) (h2 : ∀ w, Cd E MX (ml E (D + 141) S Ps A K t N I hh w) (.ref (D + 141) :: args) (some (.int 0)) (ml E (D + 141) S Ps A K t N (upd I 2 c) hh w)) : OPR E D ML hl MX args d (S, Ps, A, K, N, I, hh) t n g w0 := by
  obtain ⟨S0, S1, Sv, ks, e, tn, tx⟩ := d
  refine ⟨c, 0, g, _, (S, Ps, A, K, N, upd I 2 c, hh), t, h1, fun n2 => ?_, upd_self I 2 c, fun q => absurd q hc, rel_I hR (upd_ne _ _ (by omega)) (upd_ne _ _ (by omega))⟩
  rw [sW_ml, sW_ml]
  exact h2 _
theorem OPR.got {E : EE} {D : Nat} {ML : MI} {hl : HH} {MX : MI} {args : List Value} {d d' : DR} {S S' : St} {Ps Ps' : Nat → St} {A K N I t A' K' N' I' t' : St} {hh hh' : Int64} {n : Nat} {g : Nat → Int64} {w0 : Nat → Option va_E} {x : Int32} (h1 : Ch E ML hl (sW E D d (S, Ps, A, K, N, I, hh) t n g w0) (.ref D :: (args ++ [.ref (D + 148)])) 0 (wup (sW E D d' (S, Ps, A, K, N, I, hh) t n g w0) (D + 148) (.inl (gJ E, 1, .inr (.inl (vp_updL g 0 x.toInt64)))))) (h2 : ∀ w, Cd E MX (ml E (D + 141) S Ps A K t N I hh w) (.ref (D + 141) :: args) (some (.int x)) (ml E (D + 141) S' Ps' A' K' t' N' I' hh' w)) (hI : I' 2 = 0) (hR : Rel d' (S', Ps', A', K', N', I', hh') t') : OPR E D ML hl MX args d (S, Ps, A, K, N, I, hh) t n g w0 := by
  rw [sW_up] at h1
  refine ⟨0, x, vp_updL g 0 x.toInt64, d', (S', Ps', A', K', N', I', hh'), t', h1, fun n2 => ?_, hI, fun _ => if_pos rfl, hR⟩
  rw [sW_ml, sW_ml]
  exact h2 _
/-- an operation that both answer -/
def OP2 (E : EE) (D : Nat) (MD MX : MI) (v : Value) (d : DR) (r : MR) (t : St) (n : Nat) (g : Nat → Int64) (w0 : Nat → Option va_E) : Prop :=
  ∃ (d' : DR) (r' : MR) (t' : St), Cd E MD (sW E D d r t n g w0) [.ref D] (some v) (sW E D d' r t n g w0) ∧ (Cd E MX (sW E D d' r t n g w0) [.ref (D + 141)] (some v) (sW E D d' r' t' n g w0)) ∧ Rel d' r' t'
theorem OP2.of {E : EE} {D : Nat} {MD MX : MI} {v : Value} {d d' : DR} {S S' : St} {Ps Ps' : Nat → St} {A K N I t A' K' N' I' t' : St} {hh hh' : Int64} {n : Nat} {g : Nat → Int64} {w0 : Nat → Option va_E} (h1 : Cd E MD (sW E D d (S, Ps, A, K, N, I, hh) t n g w0) [.ref D] (some v) (sW E D d' (S, Ps, A, K, N, I, hh) t n g w0)) (h2 : ∀ w, Cd E MX (ml E (D + 141) S Ps A K t N I hh w) [.ref (D + 141)] (some v) (ml E (D + 141) S' Ps' A' K' t' N' I' hh' w)) (hR : Rel d' (S', Ps', A', K', N', I', hh') t') : OP2 E D MD MX v d (S, Ps, A, K, N, I, hh) t n g w0 := by
  refine ⟨d', (S', Ps', A', K', N', I', hh'), t', h1, ?_, hR⟩
  rw [sW_ml, sW_ml]
  exact h2 _
