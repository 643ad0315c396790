/-! THE LAW'S HELPERS, and contracts of methods that call them -/
theorem ck_62 : Cond.classLink RL 62 xI ∈ Tg := tg 194 (by decide +kernel) (by decide +kernel)
theorem ck_64 : Cond.classLink RL 64 xA ∈ Tg := tg 195 (by decide +kernel) (by decide +kernel)
theorem ck_66 : Cond.classLink RL 66 xS ∈ Tg := tg 332 (by decide +kernel) (by decide +kernel)
abbrev HH : Type := List (Nat × Nat × Nat × Nat)
def Qh (E : EE) (r : Int32) (w2 : Wo) : Array Value → State → Outcome → State → Prop := va_Qi (fun x (n : Nat) => x = r ∧ w2.1 ≤ n) (fun n t => HP E (n, w2.2) t.heap) E.2.2
def XF (E : EE) : String → State → State → Prop := vx_X (fun _ : Unit => False) (fun _ _ _ => False) E.2.2
/-- a helper's contract: from w with these arguments it answers r, and the world is w2, some more cells beside -/
def Ch (E : EE) (M : MI) (hh : HH) (w : Wo) (as : List Value) (r : Int32) (w2 : Wo) : Prop := vx_Met E.1 (mY M) (.codeWith (mY M) (mC M) (mL M) (mT M) hh :: Tg) (mR M) (PZ E w as) (Qh E r w2) (XF E) (mR M).cells (mR M).slots E.2.2
def ZG (E : EE) (Γ : Cx) : Prop := match Γ with | (_, _, _, s, _, _, _, _, _, _) => ZZ E s s.heap
def TbG (Γ : Cx) (hh : HH) : Prop := match Γ with | (_, _, _, _, _, _, _, _, c, _) => c.exceptionTable.toList = tableOf hh
def Fh (E : EE) (Γ : Cx) (M : MI) (r : Int32) (w2 : Wo) : Prop := match Γ with
  | (_, _, _, s, _, args, below, meth, _, Q) => meth.sig.returnType = mT M ∧ Q = vx_MQ below (Qh E r w2) (XF E) args s (mR M).cells (mR M).slots E.2.2
theorem Ch.of {E : EE} {M : MI} {hh : HH} {w w2 : Wo} {as : List Value} {r : Int32} (own : String) (hown : (mY M).cls = own) (hpl : plainName (mY M).cls = true) (L0 : Lo) (hlen : (lg_sl as).length ≤ mL M) (hL0 : loE as (mL M) = L0)
    (body : ∀ Γ : Cx, OkB E Γ M own → ZG E Γ → TbG Γ hh → Fh E Γ M r w2 → V E Γ 0 0 0 L0 [] w) : Ch E M hh w as r w2 := by
  subst hL0
  refine vx_ofWH (cc := mC M) (maxL := mL M) (ret := mT M) (hh := hh) hpl rfl ?_
  intro p e s m args below meth c s₁ B hml hv
  obtain ⟨rfl, hP, hK, hA, hZ⟩ := hv
  have hts := atoms_spec (ws := .codeWith (mY M) (mC M) (mL M) (mT M) hh :: Tg) B.pre
  have h := body (p, e, mR M, s, m, as.toArray, below, meth, c, vx_MQ below (Qh E r w2) (XF E) as.toArray s (mR M).cells (mR M).slots E.2.2)
    ⟨B.exec, B.bytes, hml, by rw [← hown]; exact findClass_of_methodNamed B.named, fun w hw => hts w (List.mem_cons_of_mem _ hw), B.notSynchronized, hK, rfl, hA⟩
    hZ (vx_table (x := mY M) B (hts _ List.mem_cons_self)) ⟨B.returns, rfl⟩
  rw [lg_entry_eq]
  have hl := lv_entry as (n := mL M) hlen
  refine h s.heap [] _ hP va_S.rf ?_
  rw [hml]
  exact ⟨hl.1, hl.2.1, fun k v hk => hl.2.2 (k, v) (loE_in as _ k v hk)⟩
def CBW (M : MI) (hh : HH) (n : Nat) : Prop := Cond.codeWith (mY M) (mC M) (mL M) (mT M) hh ∈ Tg ∧ (mY M).cls ≠ "java/lang/invoke/MethodHandle" ∧ (mY M).cls ≠ "java/lang/invoke/VarHandle" ∧ (parseMethodDescriptor (mY M).desc).map (fun d => d.parameters.length) = some n
def NZ (X nm : String) : Prop := (X = xA ∧ nm = xI) ∨ (X = xS ∧ nm = xI) ∨ (X = xS ∧ nm = xA)
section HROWS
variable {E : EE} {Γ : Cx} {M M2 : MI} {own : String} {k n : Nat} {L : Lo} {st st0 as : List Value} {w w2 : Wo} {idx ci b np : Nat} {fs : List Value} {hh : HH}
theorem v_ireth (h : OkB E Γ M own) (pc : Nat) {x r : Int32} (f : Fh E Γ M r w2) (hd : decode (mC M) pc = .ok (.ireturn, 1)) (hT : mT M = some .int) (hk : k ≤ (mR M).cells) (hn : n ≤ (mR M).slots) (hr : x = r) (hz : w2.1 ≤ w.1) (hw : w.2 = w2.2) : V E Γ k n pc L (.int x :: []) w := by
  obtain ⟨p, e, R, s, m, args, below, meth, c, Q⟩ := Γ
  obtain ⟨hx, hb, hml, hown, hts, hlk, hK, hR, hA0⟩ := h
  intro H locs ls hP hS hl
  obtain ⟨hrt, rfl⟩ := f
  refine vx_ret (W.widen hk hn ?_)
  exact W.iret (v := x) hx hb (hrt.trans hT) (fun t ht hW => ⟨⟨x, w.1, rfl, ⟨hr, hz⟩, by show HP E (w.1, w2.2) t.heap; rw [ht, ← hw]; exact hP⟩, hS.F ht⟩) hS.2.2 hd hlk
theorem v_callVx (h : OkB E Γ M own) (hZ : ZG E Γ) (hTb : TbG Γ hh) (pc q : Nat) {X : String} (hd : decode (mC M) pc = .ok (.invokevirtual idx, 3)) (hb2 : CB M2 np) (hv : CV M2 ci) (hw : w.2 b = some (.inr (ci, fs))) (hl2 : Cond.methodLink own idx (mY M2) ∈ Tg) (hR2 : RoomOK M M2) (hkn : k + (mR M2).cells ≤ (mR M).cells ∧ n + (mR M2).slots ≤ (mR M).slots) (hM : Cthr E M2 w (.ref b :: as) X) (hn : as.length = np) (hst : st0 = as.reverse ++ .ref b :: st) (hcat : (st.map fun v => v.category).sum ≤ 8)
    (pre : List ExceptionTableEntry) (x : ExceptionTableEntry) (suf : List ExceptionTableEntry) (hsplit : tableOf hh = pre ++ x :: suf) (hpre : ∀ z ∈ pre, z.catchType ≠ 0 ∧ ∃ nm, Cond.classLink own z.catchType nm ∈ Tg ∧ NZ X nm) (hcov : covers x pc = true) (h0 : x.catchType ≠ 0) (hck : Cond.classLink own x.catchType X ∈ Tg) (hXa : X ∈ xAll) (hpc : x.handlerPc = q)
    (kk : ∀ (n' : Nat) (q9 : Nat), w.1 ≤ n' → V E Γ (k + (mR M2).cells) (n + (mR M2).slots) q L [.ref q9] (n', w.2)) : V E Γ k n pc L st0 w := by
  obtain ⟨p, e, R, s, m, args, below, meth, c, Q⟩ := Γ
  obtain ⟨hx, hb, hml, hown, hts, hlk, hK, hR, hA0⟩ := h
  subst hst; subst hR; subst hpc
  intro H locs ls hP hS hl
  obtain ⟨c1, c2, c3, c4⟩ := hb2
  obtain ⟨T9, N9, v1, v2, v3, v4⟩ := hv
  have hr := vx_runV (e := e) (below := below) (meth := meth) (As := as) (rest := st) (b := b) (g := F0 m pc ls (as.reverse ++ .ref b :: st)) (locs := locs) (cells := k) (slots := n) ⟨hx, hb, hml, hown, hts⟩ hM (cwV (C := (mY M2).cls) np hts (tg_in (fun w hw => by
      rcases List.mem_append.mp hw with h | h
      · rcases List.mem_cons.mp h with rfl | h
        · exact hl2
        · rcases List.mem_cons.mp h with rfl | h
          · exact v2
          · rcases List.mem_cons.mp h with rfl | h
            · exact v3
            · rw [List.mem_singleton.mp h]; exact v4
      · rcases List.mem_cons.mp h with rfl | h
        · exact c1
        · exact h)) rfl rfl rfl ⟨rfl, c2, c3, c4⟩ hR2)
    ⟨fun a U g mk q => PZ.blind q, va_recv (tys := gtys E) hK (one_P (hP.2 b _ hw).2) (ci := ci) (q0 := 0) v1 rfl, fun U hU hW => ⟨rfl, by rw [hU]; exact hP, va_K.moved hW.alike hK, by rw [hU]; exact fun q hq => hA0 q (Nat.le_trans hS.1 hq), by rw [hU]; exact ZZ.go hZ hS hW⟩⟩ rfl hn (hl.1.trans hml) rfl (lv_room (pc := pc) (ls := ls) (rest := as.reverse ++ .ref b :: st) hcat) hd hkn
  unfold NQ XQ at hr
  refine vx_calli hr hS (fun q _ h => h) (fun _ h => h) (fun q _ h => h) ?_ ?_
  · intro E1 ce q9 u t H1 locs1 e1 hal hpx hBX hz hkeep hS1 hcell hvm hcl
    obtain ⟨rfl, hP1⟩ := hBX
    rw [e1] at hP1
    have hZ' : ZZ E s s.heap := hZ
    refine vx_catch hown pre x suf (Eq.trans hTb hsplit) (fun z hz => ?_) hcov h0 (hts _ hck) (va_Nw.use rfl (hZ'.2.2.2.1 _ hXa)) hcell hvm hcl (kk u q9 hpx H1 locs1 ls hP1 hS1 hl)
    obtain ⟨z0, nm, z1, z2⟩ := hpre z hz
    refine Or.inr ⟨z0, nm, hts _ z1, ?_⟩
    rcases z2 with ⟨a, b⟩ | ⟨a, b⟩ | ⟨a, b⟩ <;> rw [a, b]
    · exact hZ'.2.2.1.1
    · exact hZ'.2.2.1.2.1
    · exact hZ'.2.2.1.2.2
  · intro r u t H1 locs1 _ _ hf
    exact hf.elim
theorem v_callS1h (h : OkB E Γ M own) (hZ : ZG E Γ) (pc q : Nat) {r : Int32} (hd : decode (mC M) pc = .ok (.invokestatic idx, 3)) (hq : pc + 3 = q) (hb2 : CBW M2 hh np) (hs : CS M2) (hl2 : Cond.methodLink own idx (mY M2) ∈ Tg) (hR2 : RoomOK M M2) (hkn : k + (mR M2).cells ≤ (mR M).cells ∧ n + (mR M2).slots ≤ (mR M).slots) (hM : Ch E M2 hh w as r w2) (hn : as.length = np) (hst : st0 = as.reverse ++ st) (hcat : (st.map fun v => v.category).sum ≤ 8) (kk : ∀ n', w2.1 ≤ n' → V E Γ (k + (mR M2).cells) (n + (mR M2).slots) q L (.int r :: st) (n', w2.2)) : V E Γ k n pc L st0 w := by
  obtain ⟨p, e, R, s, m, args, below, meth, c, Q⟩ := Γ
  obtain ⟨hx, hb, hml, hown, hts, hlk, hK, hR, hA0⟩ := h
  subst hq; subst hst; subst hR
  intro H locs ls hP hS hl
  obtain ⟨c1, c2, c3, c4⟩ := hb2
  obtain ⟨v2, v4⟩ := hs
  have hr := vx_runSX (e := e) (below := below) (meth := meth) (As := as) (rest := st) (g := F0 m pc ls (as.reverse ++ st)) (locs := locs) (cells := k) (slots := n) ⟨hx, hb, hml, hown, hts⟩ hM (vx_cwSW np hts (tg_in (fun w hw => by
      rcases List.mem_append.mp hw with h | h
      · rcases List.mem_cons.mp h with rfl | h
        · exact hl2
        · rcases List.mem_cons.mp h with rfl | h
          · exact v2
          · rw [List.mem_singleton.mp h]; exact v4
      · rcases List.mem_cons.mp h with rfl | h
        · exact c1
        · exact h)) rfl rfl rfl ⟨c2, c3, c4⟩ hR2)
    ⟨fun a U g mk q => PZ.blind q, fun U hU hW => ⟨rfl, by rw [hU]; exact hP, va_K.moved hW.alike hK, by rw [hU]; exact fun q hq => hA0 q (Nat.le_trans hS.1 hq), by rw [hU]; exact ZZ.go hZ hS hW⟩⟩ rfl hn (hl.1.trans hml) rfl (lv_room (pc := pc) (ls := ls) (rest := as.reverse ++ st) hcat) hd hkn
  unfold Qh XF at hr
  refine vx_calli hr hS (fun q _ h => h) (fun _ h => h) (fun q _ h => h) ?_ ?_
  · intro E1 ce q9 u t H1 locs1 _ _ hf
    exact hf.elim
  · intro r' u t H1 locs1 e1 hal hpost hB hz hkeep hS1
    obtain ⟨rfl, hu⟩ := hpost
    rw [e1] at hB
    exact kk u hu H1 locs1 ls hB hS1 hl
end HROWS
/-- the contract of a method that calls helpers: what a throw needs of the start; some more cells beside -/
def Pz (E : EE) (r : Option Value) (w2 : Wo) : Array Value → State → Outcome → State → Prop := fun _ st oc t => (oc = .returned r ∧ ∃ n, w2.1 ≤ n ∧ HP E (n, w2.2) t.heap) ∧ va_F E.2.2 st t
def Cz (E : EE) (M : MI) (w : Wo) (as : List Value) (r : Option Value) (w2 : Wo) : Prop := Met E.1 (mY M) (.code (mY M) (mC M) (mL M) (mT M) :: Tg) (mR M) (PZ E w as) (Pz E r w2) (mR M).cells (mR M).slots E.2.2
def Fz (E : EE) (Γ : Cx) (M : MI) (r : Option Value) (w2 : Wo) : Prop := match Γ with
  | (_, _, _, s, _, args, below, meth, _, Q) => meth.sig.returnType = mT M ∧ Q = MQ below (Pz E r w2) args s (mR M).cells (mR M).slots E.2.2
theorem Cz.of {E : EE} {M : MI} {w w2 : Wo} {as : List Value} {r : Option Value} (own : String) (hown : (mY M).cls = own) (hpl : plainName (mY M).cls = true) (L0 : Lo) (hlen : (lg_sl as).length ≤ mL M) (hL0 : loE as (mL M) = L0)
    (body : Nn w → ∀ Γ : Cx, OkB E Γ M own → ZG E Γ → Fz E Γ M r w2 → V E Γ 0 0 0 L0 [] w) : Cz E M w as r w2 := by
  subst hL0
  refine Met.ofW (cc := mC M) (maxL := mL M) (ret := mT M) hpl rfl ?_
  intro p e s m args below meth c s₁ B hml hv
  obtain ⟨rfl, hP, hK, hA, hZ⟩ := hv
  have hts := atoms_spec (ws := .code (mY M) (mC M) (mL M) (mT M) :: Tg) B.pre
  have h := body hP.nn (p, e, mR M, s, m, as.toArray, below, meth, c, MQ below (Pz E r w2) as.toArray s (mR M).cells (mR M).slots E.2.2)
    ⟨B.exec, B.bytes, hml, by rw [← hown]; exact findClass_of_methodNamed B.named, fun w hw => hts w (List.mem_cons_of_mem _ hw), B.notSynchronized, hK, rfl, hA⟩
    hZ ⟨B.returns, rfl⟩
  rw [lg_entry_eq]
  have hl := lv_entry as (n := mL M) hlen
  refine h s.heap [] _ hP va_S.rf ?_
  rw [hml]
  exact ⟨hl.1, hl.2.1, fun k v hk => hl.2.2 (k, v) (loE_in as _ k v hk)⟩
/-- a method that reads the law's script -/
def PXs (E : EE) (b N : Nat) (xs : Nat → Int32) (w : Wo) (as : List Value) : Array Value → State → Prop := va_Pc as (fun U => HP E w U.heap ∧ va_K (gD E) vwCl (gtys E) U ∧ (∀ q : Nat, U.heap.size ≤ q → E.2.2 q) ∧ va_X b N xs U U.heap ∧ b < U.heap.size ∧ ¬ E.2.2 b)
def Cs (E : EE) (b N : Nat) (xs : Nat → Int32) (M : MI) (w : Wo) (as : List Value) (r : Option Value) (w2 : Wo) : Prop := Met E.1 (mY M) (.code (mY M) (mC M) (mL M) (mT M) :: Tg) (mR M) (PXs E b N xs w as) (Po E r w2) (mR M).cells (mR M).slots E.2.2
def XG (E : EE) (Γ : Cx) (b L : Nat) (xs : Nat → Int32) : Prop := match Γ with | (_, _, _, s, _, _, _, _, _, _) => va_X b L xs s s.heap ∧ b < s.heap.size ∧ ¬ E.2.2 b
theorem Cs.of {E : EE} {b N : Nat} {xs : Nat → Int32} {M : MI} {w w2 : Wo} {as : List Value} {r : Option Value} (own : String) (hown : (mY M).cls = own) (hpl : plainName (mY M).cls = true) (L0 : Lo) (hlen : (lg_sl as).length ≤ mL M) (hL0 : loE as (mL M) = L0)
    (body : ∀ Γ : Cx, OkB E Γ M own → XG E Γ b N xs → Fn E Γ M r w2 → V E Γ 0 0 0 L0 [] w) : Cs E b N xs M w as r w2 := by
  subst hL0
  refine Met.ofW (cc := mC M) (maxL := mL M) (ret := mT M) hpl rfl ?_
  intro p e s m args below meth c s₁ B hml hv
  obtain ⟨rfl, hP, hK, hA, hX⟩ := hv
  have hts := atoms_spec (ws := .code (mY M) (mC M) (mL M) (mT M) :: Tg) B.pre
  have h := body (p, e, mR M, s, m, as.toArray, below, meth, c, MQ below (Po E r w2) as.toArray s (mR M).cells (mR M).slots E.2.2)
    ⟨B.exec, B.bytes, hml, by rw [← hown]; exact findClass_of_methodNamed B.named, fun w hw => hts w (List.mem_cons_of_mem _ hw), B.notSynchronized, hK, rfl, hA⟩
    hX ⟨B.returns, rfl⟩
  rw [lg_entry_eq]
  have hl := lv_entry as (n := mL M) hlen
  refine h s.heap [] _ hP va_S.rf ?_
  rw [hml]
  exact ⟨hl.1, hl.2.1, fun k v hk => hl.2.2 (k, v) (loE_in as _ k v hk)⟩
theorem PXs.blind {E : EE} {b N : Nat} {xs : Nat → Int32} {w : Wo} {as : List Value} {U : State} {g : JFrame} {mk : MethodId} {a : Array Value} (q : PXs E b N xs w as a U) : PXs E b N xs w as a (U.calling g mk a) := by
  obtain ⟨q0, q1, q2, q3, q4, q5⟩ := q
  exact ⟨q0, q1, va_K.moved (u := U) (U := U.calling g mk a) (Vm.Alike.refl U.vm) q2, q3, va_X.moved (u := U) (U := U.calling g mk a) (Vm.Alike.refl U.vm) q4, q5⟩
section ZROWS
variable {E : EE} {Γ : Cx} {M M2 : MI} {own : String} {k n : Nat} {L : Lo} {st st0 as : List Value} {w w2 : Wo} {idx ci b np : Nat} {fs : List Value} {hh : HH}
theorem v_zretz (h : OkB E Γ M own) (pc : Nat) {x : Int32} {r : Option Value} (f : Fz E Γ M r w2) (hd : decode (mC M) pc = .ok (.ireturn, 1)) (hT : mT M = some .boolean) (hnw : narrow .boolean (.int x) = .int x) (hk : k ≤ (mR M).cells) (hn : n ≤ (mR M).slots) (hr : some (.int x) = r) (hz : w2.1 ≤ w.1) (hw : w.2 = w2.2) : V E Γ k n pc L (.int x :: []) w := by
  obtain ⟨p, e, R, s, m, args, below, meth, c, Q⟩ := Γ
  obtain ⟨hx, hb, hml, hown, hts, hlk, hK, hR, hA0⟩ := h
  intro H locs ls hP hS hl
  obtain ⟨hrt, rfl⟩ := f
  subst hr
  refine W.widen hk hn ?_
  exact W.zret (v := x) hx hb (hrt.trans hT) hnw (fun t ht hW => ⟨⟨rfl, w.1, hz, by rw [ht, ← hw]; exact hP⟩, hS.F ht⟩) hS.2.2 hd hlk
theorem v_callS1z (h : OkB E Γ M own) (hZ : ZG E Γ) (pc q : Nat) {v : Value} (hd : decode (mC M) pc = .ok (.invokestatic idx, 3)) (hq : pc + 3 = q) (hb2 : CB M2 np) (hs : CS M2) (hl2 : Cond.methodLink own idx (mY M2) ∈ Tg) (hR2 : RoomOK M M2) (hkn : k + (mR M2).cells ≤ (mR M).cells ∧ n + (mR M2).slots ≤ (mR M).slots) (hM : Cz E M2 w (as) (some v) w2) (hn : as.length = np) (hst : st0 = as.reverse ++ st) (hcat : (st.map fun v => v.category).sum ≤ 8) (kk : ∀ n', w2.1 ≤ n' → V E Γ (k + (mR M2).cells) (n + (mR M2).slots) q L (v :: st) (n', w2.2)) : V E Γ k n pc L st0 w := by
  obtain ⟨p, e, R, s, m, args, below, meth, c, Q⟩ := Γ
  obtain ⟨hx, hb, hml, hown, hts, hlk, hK, hR, hA0⟩ := h
  subst hq; subst hst; subst hR
  intro H locs ls hP hS hl
  obtain ⟨c1, c2, c3, c4⟩ := hb2
  obtain ⟨v2, v4⟩ := hs
  have hr := va_runS (e := e) (below := below) (meth := meth) (As := as) (rest := st) (g := F0 m pc ls (as.reverse ++ st)) (locs := locs) (cells := k) (slots := n) ⟨hx, hb, hml, hown, hts⟩ hM (va_cwS np hts (tg_in (fun w hw => by
      rcases List.mem_append.mp hw with h | h
      · rcases List.mem_cons.mp h with rfl | h
        · exact hl2
        · rcases List.mem_cons.mp h with rfl | h
          · exact v2
          · rw [List.mem_singleton.mp h]; exact v4
      · rcases List.mem_cons.mp h with rfl | h
        · exact c1
        · exact h)) rfl rfl rfl ⟨c2, c3, c4⟩ hR2)
    ⟨fun a U g mk q => PZ.blind q, fun U hU hW => ⟨rfl, by rw [hU]; exact hP, va_K.moved hW.alike hK, by rw [hU]; exact fun q hq => hA0 q (Nat.le_trans hS.1 hq), by rw [hU]; exact ZZ.go hZ hS hW⟩⟩ rfl hn (hl.1.trans hml) rfl (lv_room (pc := pc) (ls := ls) (rest := as.reverse ++ st) hcat) hd hkn
  intro T hT X
  obtain ⟨v', st₀, t, T', L', h0, X', hL, e1, e2, ⟨⟨hv', n', hn', hB⟩, hF⟩, stp⟩ := hr T hT X
  cases hv'
  obtain ⟨-, -, hS'⟩ := vx_keep h0 e1 hS (fun q _ h => h) (fun _ h => h) hL hF
  have hP' : HP E (n', w2.2) T'.heap := by rw [e1]; exact hB
  obtain ⟨t2, a1, b1⟩ := kk n' hn' T'.heap (locs ++ L') ls hP' hS' hl T' rfl X'
  exact ⟨t2, stp t2 a1, b1⟩
theorem v_callS1s (h : OkB E Γ M own) {b N : Nat} {xs : Nat → Int32} (hX : XG E Γ b N xs) (pc q : Nat) {v : Value} (hd : decode (mC M) pc = .ok (.invokestatic idx, 3)) (hq : pc + 3 = q) (hb2 : CB M2 np) (hs : CS M2) (hl2 : Cond.methodLink own idx (mY M2) ∈ Tg) (hR2 : RoomOK M M2) (hz : (mR M2).cells = 0 ∧ (mR M2).slots = 0) (hkn : k ≤ (mR M).cells ∧ n ≤ (mR M).slots) (hM : Cs E b N xs M2 w (as) (some v) w2) (hn : as.length = np) (hst : st0 = as.reverse ++ st) (hcat : (st.map fun v => v.category).sum ≤ 8) (kk : V E Γ k n q L (v :: st) w2) : V E Γ k n pc L st0 w := by
  obtain ⟨p, e, R, s, m, args, below, meth, c, Q⟩ := Γ
  obtain ⟨hx, hb, hml, hown, hts, hlk, hK, hR, hA0⟩ := h
  obtain ⟨x1, x2, x3⟩ := hX
  subst hq; subst hst; subst hR
  intro H locs ls hP hS hl
  obtain ⟨c1, c2, c3, c4⟩ := hb2
  obtain ⟨v2, v4⟩ := hs
  have hr := va_runS (e := e) (below := below) (meth := meth) (As := as) (rest := st) (g := F0 m pc ls (as.reverse ++ st)) (locs := locs) (cells := k) (slots := n) ⟨hx, hb, hml, hown, hts⟩ hM (va_cwS np hts (tg_in (fun w hw => by
      rcases List.mem_append.mp hw with h | h
      · rcases List.mem_cons.mp h with rfl | h
        · exact hl2
        · rcases List.mem_cons.mp h with rfl | h
          · exact v2
          · rw [List.mem_singleton.mp h]; exact v4
      · rcases List.mem_cons.mp h with rfl | h
        · exact c1
        · exact h)) rfl rfl rfl ⟨c2, c3, c4⟩ hR2)
    ⟨fun a U g mk q => PXs.blind q, fun U hU hW => ⟨rfl, by rw [hU]; exact hP, va_K.moved hW.alike hK, by rw [hU]; exact fun q hq => hA0 q (Nat.le_trans hS.1 hq), by rw [hU]; exact (va_X.moved hW.alike x1).kept (hS.2.1 b x2 x3), by rw [hU]; exact Nat.lt_of_lt_of_le x2 hS.1, x3⟩⟩ rfl hn (hl.1.trans hml) rfl (lv_room (pc := pc) (ls := ls) (rest := as.reverse ++ st) hcat) hd (by rw [hz.1, hz.2]; exact hkn)
  intro T hT X
  obtain ⟨v', st₀, t, T', L', h0, X', hL, e1, e2, ⟨⟨hv', hB⟩, hF⟩, stp⟩ := hr T hT X
  cases hv'
  obtain ⟨-, -, hS'⟩ := vx_keep h0 e1 hS (fun q _ h => h) (fun _ h => h) hL hF
  have hP' : HP E w2 T'.heap := by rw [e1]; exact hB
  rw [hz.1, hz.2] at X'
  obtain ⟨t2, a1, b1⟩ := kk T'.heap (locs ++ L') ls hP' hS' hl T' rfl X'
  exact ⟨t2, stp t2 a1, b1⟩
theorem v_sld (h : OkB E Γ M own) {b N : Nat} {xs : Nat → Int32} (hX : XG E Γ b N xs) (pc q : Nat) {i : Nat} (hi : i < N) (hN : N < 2 ^ 31) (hd : decode (mC M) pc = .ok (.iaload, 1)) (hq : pc + 1 = q) (kk : V E Γ k n q L (.int (xs i) :: st) w) : V E Γ k n pc L (.int (nI i) :: .ref b :: st) w := by
  obtain ⟨p, e, R, s, m, args, below, meth, c, Q⟩ := Γ
  obtain ⟨hx, hb, hml, hown, hts, hlk, hK, hR, hA0⟩ := h
  obtain ⟨x1, x2, x3⟩ := hX
  subst hq
  intro H locs ls hP hS hl
  refine va_sld hx hb x1 x2 x3 hS (vp_in_nI (n := i) hi hN) hd ?_
  rw [nI_clamp (by omega)]
  exact kk H locs ls hP hS hl
theorem v_slen (h : OkB E Γ M own) {b N : Nat} {xs : Nat → Int32} (hX : XG E Γ b N xs) (pc q : Nat) (hd : decode (mC M) pc = .ok (.arraylength, 1)) (hq : pc + 1 = q) (kk : V E Γ k n q L (.int (nI N) :: st) w) : V E Γ k n pc L (.ref b :: st) w := by
  obtain ⟨p, e, R, s, m, args, below, meth, c, Q⟩ := Γ
  obtain ⟨hx, hb, hml, hown, hts, hlk, hK, hR, hA0⟩ := h
  obtain ⟨x1, x2, x3⟩ := hX
  subst hq
  intro H locs ls hP hS hl
  exact va_slen hx hb x1 x2 x3 hS hd (kk H locs ls hP hS hl)
end ZROWS
/-- the script's number k, or what stands for it behind its end -/
def cellV (xs : Nat → Int32) (N k : Nat) : Int32 := if k < N then xs k else 40503 * nI (k + 3)
set_option maxRecDepth 100000 in
theorem k_cell {E : EE} {w : Wo} {b N : Nat} {xs : Nat → Int32} (hN : N < 2 ^ 30) {k : Nat} (hk : k < 2 ^ 30) : Cs E b N xs mL_cell w [.ref b, .int (nI k)] (some (.int (cellV xs N k))) w := by
  refine Cs.of RL rfl (by decide) [some (.ref b), some (.int (nI k))] (Nat.le_of_ble_eq_true rfl) rfl (fun Γ h hX f => ?_)
  refine v_iload_n (i := 1) h 0 1 dL_cell_0 rfl rfl ld1 ?_
  refine v_aload_n (i := 0) h 1 2 dL_cell_1 rfl rfl ld0 ?_
  refine v_slen h hX 2 3 dL_cell_2 rfl ?_
  refine v_icmp_ge h 3 6 12 dL_cell_3 rfl (by decide) (fun h3 => ?_) (fun h3 => ?_)
  · have hk3 : ¬ k < N := Nat.not_lt.mpr ((nI_leI (by omega) (by omega)).mp h3)
    refine v_ldc h 12 14 dL_cell_12 rfl kc_L_7 ?_
    refine v_iload_n (i := 1) h 14 15 dL_cell_14 rfl rfl ld1 ?_
    refine v_iconst (v := nI 3) h 15 16 dL_cell_15 rfl (by decide) ?_
    refine v_iaddN h 16 17 dL_cell_16 rfl ?_
    refine v_imul h 17 18 dL_cell_17 rfl ?_
    exact v_iret h 18 f dL_cell_18 rfl (Nat.zero_le _) (Nat.zero_le _) (by rw [cellV, if_neg hk3]) rfl
  · have hk3 : k < N := Nat.not_le.mp (fun q => h3 (nI_le q (by omega)))
    refine v_aload_n (i := 0) h 6 7 dL_cell_6 rfl rfl ld0 ?_
    refine v_iload_n (i := 1) h 7 8 dL_cell_7 rfl rfl ld1 ?_
    refine v_sld h hX 8 9 hk3 (by omega) dL_cell_8 rfl ?_
    refine v_goto h 9 18 dL_cell_9 (by decide) ?_
    exact v_iret h 18 f dL_cell_18 rfl (Nat.zero_le _) (Nat.zero_le _) (by rw [cellV, if_pos hk3]) rfl
def hL_addsChair : HH := [((0 : Nat), (9 : Nat), (10 : Nat), (62 : Nat)), ((0 : Nat), (9 : Nat), (15 : Nat), (64 : Nat)), ((0 : Nat), (9 : Nat), (20 : Nat), (66 : Nat))]
theorem cb_L_addsChair : CBW mL_addsChair hL_addsChair 5 := ⟨tg 465 (by decide +kernel) (by decide +kernel), by decide +kernel, by decide +kernel, by decide +kernel⟩
theorem cb_Lz_addsChair : CBW mLz_addsChair hL_addsChair 5 := ⟨tg 465 (by decide +kernel) (by decide +kernel), by decide +kernel, by decide +kernel, by decide +kernel⟩
set_option maxRecDepth 100000 in
theorem g_addsChair {E : EE} {w w2 : Wo} {D : Nat} {fs : List Value} {a1 a2 a3 a4 : Int32} {r : Int32} (hD : w.2 D = some (.inr (3, fs))) (hM : Cd E mX3z_addChair w [.ref D, .int a1, .int a2, .int a3, .int a4] (some (.int r)) w2) : Ch E mLz_addsChair hL_addsChair w [.ref D, .int a1, .int a2, .int a3, .int a4] r w2 := by
  refine Ch.of RL rfl (by decide) [some (.ref D), some (.int a1), some (.int a2), some (.int a3), some (.int a4), none] (Nat.le_of_ble_eq_true rfl) rfl (fun Γ h hZ hTb f => ?_)
  refine v_aload_n (i := 0) h 0 1 dL_addsChair_0 rfl rfl ld0 ?_
  refine v_iload_n (i := 1) h 1 2 dL_addsChair_1 rfl rfl ld1 ?_
  refine v_iload_n (i := 2) h 2 3 dL_addsChair_2 rfl rfl ld2 ?_
  refine v_iload_n (i := 3) h 3 4 dL_addsChair_3 rfl rfl ld3 ?_
  refine v_iload (i := 4) h 4 6 dL_addsChair_4 rfl ld4 ?_
  refine v_callV1 h 6 9 dL_addsChair_6 rfl cb_X3z_addChair cv_X3z_addChair hD lk_L_56 (rok (by decide) (by decide)) ⟨rfl, rfl⟩ ⟨Nat.zero_le _, Nat.zero_le _⟩ hM rfl rfl (Nat.le_of_ble_eq_true rfl) ?_
  exact v_ireth h 9 f dL_addsChair_9 rfl (by decide) (by decide) rfl (Nat.le_refl _) rfl
set_option maxRecDepth 100000 in
theorem t_addsChair1 {E : EE} {w : Wo} {D : Nat} {fs : List Value} {a1 a2 a3 a4 : Int32} (hD : w.2 D = some (.inr (3, fs))) (hM : Cthr E mX3_addChair w [.ref D, .int a1, .int a2, .int a3, .int a4] xI) : Ch E mL_addsChair hL_addsChair w [.ref D, .int a1, .int a2, .int a3, .int a4] (-100001) w := by
  refine Ch.of RL rfl (by decide) [some (.ref D), some (.int a1), some (.int a2), some (.int a3), some (.int a4), none] (Nat.le_of_ble_eq_true rfl) rfl (fun Γ h hZ hTb f => ?_)
  refine v_aload_n (i := 0) h 0 1 dL_addsChair_0 rfl rfl ld0 ?_
  refine v_iload_n (i := 1) h 1 2 dL_addsChair_1 rfl rfl ld1 ?_
  refine v_iload_n (i := 2) h 2 3 dL_addsChair_2 rfl rfl ld2 ?_
  refine v_iload_n (i := 3) h 3 4 dL_addsChair_3 rfl rfl ld3 ?_
  refine v_iload (i := 4) h 4 6 dL_addsChair_4 rfl ld4 ?_
  refine v_callVx h hZ hTb 6 10 dL_addsChair_6 cb_X3_addChair cv_X3_addChair hD lk_L_56 (rok (by decide) (by decide)) ⟨by decide, by decide⟩ hM rfl rfl (Nat.le_of_ble_eq_true rfl) [] ⟨0, 9, 10, 62⟩ [⟨0, 9, 15, 64⟩, ⟨0, 9, 20, 66⟩] rfl (fun _ h => nomatch h) (by decide) (by decide) ck_62 (by decide +kernel) rfl (fun n' q9 hn => ?_)
  refine v_astore (i := 5) h 10 12 dL_addsChair_10 rfl (by decide) (so5 rfl) ?_
  refine v_ldc h 12 14 dL_addsChair_12 rfl kc_L_35 ?_
  exact v_ireth h 14 f dL_addsChair_14 rfl (by decide) (by decide) rfl hn rfl
set_option maxRecDepth 100000 in
theorem t_addsChair2 {E : EE} {w : Wo} {D : Nat} {fs : List Value} {a1 a2 a3 a4 : Int32} (hD : w.2 D = some (.inr (3, fs))) (hM : Cthr E mX3_addChair w [.ref D, .int a1, .int a2, .int a3, .int a4] xA) : Ch E mL_addsChair hL_addsChair w [.ref D, .int a1, .int a2, .int a3, .int a4] (-100002) w := by
  refine Ch.of RL rfl (by decide) [some (.ref D), some (.int a1), some (.int a2), some (.int a3), some (.int a4), none] (Nat.le_of_ble_eq_true rfl) rfl (fun Γ h hZ hTb f => ?_)
  refine v_aload_n (i := 0) h 0 1 dL_addsChair_0 rfl rfl ld0 ?_
  refine v_iload_n (i := 1) h 1 2 dL_addsChair_1 rfl rfl ld1 ?_
  refine v_iload_n (i := 2) h 2 3 dL_addsChair_2 rfl rfl ld2 ?_
  refine v_iload_n (i := 3) h 3 4 dL_addsChair_3 rfl rfl ld3 ?_
  refine v_iload (i := 4) h 4 6 dL_addsChair_4 rfl ld4 ?_
  refine v_callVx h hZ hTb 6 15 dL_addsChair_6 cb_X3_addChair cv_X3_addChair hD lk_L_56 (rok (by decide) (by decide)) ⟨by decide, by decide⟩ hM rfl rfl (Nat.le_of_ble_eq_true rfl) [⟨0, 9, 10, 62⟩] ⟨0, 9, 15, 64⟩ [⟨0, 9, 20, 66⟩] rfl (fun z h => by
    rw [List.mem_singleton.mp h]
    exact ⟨by decide, _, ck_62, Or.inl ⟨rfl, rfl⟩⟩) (by decide) (by decide) ck_64 (by decide +kernel) rfl (fun n' q9 hn => ?_)
  refine v_astore (i := 5) h 15 17 dL_addsChair_15 rfl (by decide) (so5 rfl) ?_
  refine v_ldc h 17 19 dL_addsChair_17 rfl kc_L_44 ?_
  exact v_ireth h 19 f dL_addsChair_19 rfl (by decide) (by decide) rfl hn rfl
set_option maxRecDepth 100000 in
theorem t_addsChair3 {E : EE} {w : Wo} {D : Nat} {fs : List Value} {a1 a2 a3 a4 : Int32} (hD : w.2 D = some (.inr (3, fs))) (hM : Cthr E mX3_addChair w [.ref D, .int a1, .int a2, .int a3, .int a4] xS) : Ch E mL_addsChair hL_addsChair w [.ref D, .int a1, .int a2, .int a3, .int a4] (-100003) w := by
  refine Ch.of RL rfl (by decide) [some (.ref D), some (.int a1), some (.int a2), some (.int a3), some (.int a4), none] (Nat.le_of_ble_eq_true rfl) rfl (fun Γ h hZ hTb f => ?_)
  refine v_aload_n (i := 0) h 0 1 dL_addsChair_0 rfl rfl ld0 ?_
  refine v_iload_n (i := 1) h 1 2 dL_addsChair_1 rfl rfl ld1 ?_
  refine v_iload_n (i := 2) h 2 3 dL_addsChair_2 rfl rfl ld2 ?_
  refine v_iload_n (i := 3) h 3 4 dL_addsChair_3 rfl rfl ld3 ?_
  refine v_iload (i := 4) h 4 6 dL_addsChair_4 rfl ld4 ?_
  refine v_callVx h hZ hTb 6 20 dL_addsChair_6 cb_X3_addChair cv_X3_addChair hD lk_L_56 (rok (by decide) (by decide)) ⟨by decide, by decide⟩ hM rfl rfl (Nat.le_of_ble_eq_true rfl) [⟨0, 9, 10, 62⟩, ⟨0, 9, 15, 64⟩] ⟨0, 9, 20, 66⟩ [] rfl (fun z h => by
    rcases List.mem_cons.mp h with rfl | h
    · exact ⟨by decide, _, ck_62, Or.inr (Or.inl ⟨rfl, rfl⟩)⟩
    · rw [List.mem_singleton.mp h]
      exact ⟨by decide, _, ck_64, Or.inr (Or.inr ⟨rfl, rfl⟩)⟩) (by decide) (by decide) ck_66 (by decide +kernel) rfl (fun n' q9 hn => ?_)
  refine v_astore (i := 5) h 20 22 dL_addsChair_20 rfl (by decide) (so5 rfl) ?_
  refine v_ldc h 22 24 dL_addsChair_22 rfl kc_L_36 ?_
  exact v_ireth h 24 f dL_addsChair_24 rfl (by decide) (by decide) rfl hn rfl
def hL_addsTeam : HH := [((0 : Nat), (6 : Nat), (7 : Nat), (62 : Nat)), ((0 : Nat), (6 : Nat), (11 : Nat), (64 : Nat)), ((0 : Nat), (6 : Nat), (15 : Nat), (66 : Nat))]
theorem cb_L_addsTeam : CBW mL_addsTeam hL_addsTeam 3 := ⟨tg 376 (by decide +kernel) (by decide +kernel), by decide +kernel, by decide +kernel, by decide +kernel⟩
theorem cb_Lz_addsTeam : CBW mLz_addsTeam hL_addsTeam 3 := ⟨tg 376 (by decide +kernel) (by decide +kernel), by decide +kernel, by decide +kernel, by decide +kernel⟩
set_option maxRecDepth 100000 in
theorem g_addsTeam {E : EE} {w w2 : Wo} {D : Nat} {fs : List Value} {a1 a2 : Int32} {r : Int32} (hD : w.2 D = some (.inr (3, fs))) (hM : Cd E mX3z_addTeam w [.ref D, .int a1, .int a2] (some (.int r)) w2) : Ch E mLz_addsTeam hL_addsTeam w [.ref D, .int a1, .int a2] r w2 := by
  refine Ch.of RL rfl (by decide) [some (.ref D), some (.int a1), some (.int a2), none] (Nat.le_of_ble_eq_true rfl) rfl (fun Γ h hZ hTb f => ?_)
  refine v_aload_n (i := 0) h 0 1 dL_addsTeam_0 rfl rfl ld0 ?_
  refine v_iload_n (i := 1) h 1 2 dL_addsTeam_1 rfl rfl ld1 ?_
  refine v_iload_n (i := 2) h 2 3 dL_addsTeam_2 rfl rfl ld2 ?_
  refine v_callV1 h 3 6 dL_addsTeam_3 rfl cb_X3z_addTeam cv_X3z_addTeam hD lk_L_68 (rok (by decide) (by decide)) ⟨rfl, rfl⟩ ⟨Nat.zero_le _, Nat.zero_le _⟩ hM rfl rfl (Nat.le_of_ble_eq_true rfl) ?_
  exact v_ireth h 6 f dL_addsTeam_6 rfl (by decide) (by decide) rfl (Nat.le_refl _) rfl
set_option maxRecDepth 100000 in
theorem t_addsTeam1 {E : EE} {w : Wo} {D : Nat} {fs : List Value} {a1 a2 : Int32} (hD : w.2 D = some (.inr (3, fs))) (hM : Cthr E mX3_addTeam w [.ref D, .int a1, .int a2] xI) : Ch E mL_addsTeam hL_addsTeam w [.ref D, .int a1, .int a2] (-100001) w := by
  refine Ch.of RL rfl (by decide) [some (.ref D), some (.int a1), some (.int a2), none] (Nat.le_of_ble_eq_true rfl) rfl (fun Γ h hZ hTb f => ?_)
  refine v_aload_n (i := 0) h 0 1 dL_addsTeam_0 rfl rfl ld0 ?_
  refine v_iload_n (i := 1) h 1 2 dL_addsTeam_1 rfl rfl ld1 ?_
  refine v_iload_n (i := 2) h 2 3 dL_addsTeam_2 rfl rfl ld2 ?_
  refine v_callVx h hZ hTb 3 7 dL_addsTeam_3 cb_X3_addTeam cv_X3_addTeam hD lk_L_68 (rok (by decide) (by decide)) ⟨by decide, by decide⟩ hM rfl rfl (Nat.le_of_ble_eq_true rfl) [] ⟨0, 6, 7, 62⟩ [⟨0, 6, 11, 64⟩, ⟨0, 6, 15, 66⟩] rfl (fun _ h => nomatch h) (by decide) (by decide) ck_62 (by decide +kernel) rfl (fun n' q9 hn => ?_)
  refine v_astore_n (i := 3) h 7 8 dL_addsTeam_7 rfl rfl (by decide) (so3 rfl) ?_
  refine v_ldc h 8 10 dL_addsTeam_8 rfl kc_L_35 ?_
  exact v_ireth h 10 f dL_addsTeam_10 rfl (by decide) (by decide) rfl hn rfl
set_option maxRecDepth 100000 in
theorem t_addsTeam2 {E : EE} {w : Wo} {D : Nat} {fs : List Value} {a1 a2 : Int32} (hD : w.2 D = some (.inr (3, fs))) (hM : Cthr E mX3_addTeam w [.ref D, .int a1, .int a2] xA) : Ch E mL_addsTeam hL_addsTeam w [.ref D, .int a1, .int a2] (-100002) w := by
  refine Ch.of RL rfl (by decide) [some (.ref D), some (.int a1), some (.int a2), none] (Nat.le_of_ble_eq_true rfl) rfl (fun Γ h hZ hTb f => ?_)
  refine v_aload_n (i := 0) h 0 1 dL_addsTeam_0 rfl rfl ld0 ?_
  refine v_iload_n (i := 1) h 1 2 dL_addsTeam_1 rfl rfl ld1 ?_
  refine v_iload_n (i := 2) h 2 3 dL_addsTeam_2 rfl rfl ld2 ?_
  refine v_callVx h hZ hTb 3 11 dL_addsTeam_3 cb_X3_addTeam cv_X3_addTeam hD lk_L_68 (rok (by decide) (by decide)) ⟨by decide, by decide⟩ hM rfl rfl (Nat.le_of_ble_eq_true rfl) [⟨0, 6, 7, 62⟩] ⟨0, 6, 11, 64⟩ [⟨0, 6, 15, 66⟩] rfl (fun z h => by
    rw [List.mem_singleton.mp h]
    exact ⟨by decide, _, ck_62, Or.inl ⟨rfl, rfl⟩⟩) (by decide) (by decide) ck_64 (by decide +kernel) rfl (fun n' q9 hn => ?_)
  refine v_astore_n (i := 3) h 11 12 dL_addsTeam_11 rfl rfl (by decide) (so3 rfl) ?_
  refine v_ldc h 12 14 dL_addsTeam_12 rfl kc_L_44 ?_
  exact v_ireth h 14 f dL_addsTeam_14 rfl (by decide) (by decide) rfl hn rfl
set_option maxRecDepth 100000 in
theorem t_addsTeam3 {E : EE} {w : Wo} {D : Nat} {fs : List Value} {a1 a2 : Int32} (hD : w.2 D = some (.inr (3, fs))) (hM : Cthr E mX3_addTeam w [.ref D, .int a1, .int a2] xS) : Ch E mL_addsTeam hL_addsTeam w [.ref D, .int a1, .int a2] (-100003) w := by
  refine Ch.of RL rfl (by decide) [some (.ref D), some (.int a1), some (.int a2), none] (Nat.le_of_ble_eq_true rfl) rfl (fun Γ h hZ hTb f => ?_)
  refine v_aload_n (i := 0) h 0 1 dL_addsTeam_0 rfl rfl ld0 ?_
  refine v_iload_n (i := 1) h 1 2 dL_addsTeam_1 rfl rfl ld1 ?_
  refine v_iload_n (i := 2) h 2 3 dL_addsTeam_2 rfl rfl ld2 ?_
  refine v_callVx h hZ hTb 3 15 dL_addsTeam_3 cb_X3_addTeam cv_X3_addTeam hD lk_L_68 (rok (by decide) (by decide)) ⟨by decide, by decide⟩ hM rfl rfl (Nat.le_of_ble_eq_true rfl) [⟨0, 6, 7, 62⟩, ⟨0, 6, 11, 64⟩] ⟨0, 6, 15, 66⟩ [] rfl (fun z h => by
    rcases List.mem_cons.mp h with rfl | h
    · exact ⟨by decide, _, ck_62, Or.inr (Or.inl ⟨rfl, rfl⟩)⟩
    · rw [List.mem_singleton.mp h]
      exact ⟨by decide, _, ck_64, Or.inr (Or.inr ⟨rfl, rfl⟩)⟩) (by decide) (by decide) ck_66 (by decide +kernel) rfl (fun n' q9 hn => ?_)
  refine v_astore_n (i := 3) h 15 16 dL_addsTeam_15 rfl rfl (by decide) (so3 rfl) ?_
  refine v_ldc h 16 18 dL_addsTeam_16 rfl kc_L_36 ?_
  exact v_ireth h 18 f dL_addsTeam_18 rfl (by decide) (by decide) rfl hn rfl
def hL_ways : HH := [((0 : Nat), (6 : Nat), (7 : Nat), (62 : Nat)), ((0 : Nat), (6 : Nat), (11 : Nat), (64 : Nat))]
theorem cb_L_ways : CBW mL_ways hL_ways 3 := ⟨tg 193 (by decide +kernel) (by decide +kernel), by decide +kernel, by decide +kernel, by decide +kernel⟩
theorem cb_Lz_ways : CBW mLz_ways hL_ways 3 := ⟨tg 193 (by decide +kernel) (by decide +kernel), by decide +kernel, by decide +kernel, by decide +kernel⟩
set_option maxRecDepth 100000 in
theorem g_ways {E : EE} {w w2 : Wo} {D : Nat} {fs : List Value} {a1 a2 : Int32} {r : Int32} (hD : w.2 D = some (.inr (3, fs))) (hM : Cd E mX3z_setWay w [.ref D, .int a1, .int a2] (some (.int r)) w2) : Ch E mLz_ways hL_ways w [.ref D, .int a1, .int a2] r w2 := by
  refine Ch.of RL rfl (by decide) [some (.ref D), some (.int a1), some (.int a2), none] (Nat.le_of_ble_eq_true rfl) rfl (fun Γ h hZ hTb f => ?_)
  refine v_aload_n (i := 0) h 0 1 dL_ways_0 rfl rfl ld0 ?_
  refine v_iload_n (i := 1) h 1 2 dL_ways_1 rfl rfl ld1 ?_
  refine v_iload_n (i := 2) h 2 3 dL_ways_2 rfl rfl ld2 ?_
  refine v_callV1 h 3 6 dL_ways_3 rfl cb_X3z_setWay cv_X3z_setWay hD lk_L_71 (rok (by decide) (by decide)) ⟨rfl, rfl⟩ ⟨Nat.zero_le _, Nat.zero_le _⟩ hM rfl rfl (Nat.le_of_ble_eq_true rfl) ?_
  exact v_ireth h 6 f dL_ways_6 rfl (by decide) (by decide) rfl (Nat.le_refl _) rfl
set_option maxRecDepth 100000 in
theorem t_ways1 {E : EE} {w : Wo} {D : Nat} {fs : List Value} {a1 a2 : Int32} (hD : w.2 D = some (.inr (3, fs))) (hM : Cthr E mX3_setWay w [.ref D, .int a1, .int a2] xI) : Ch E mL_ways hL_ways w [.ref D, .int a1, .int a2] (-100001) w := by
  refine Ch.of RL rfl (by decide) [some (.ref D), some (.int a1), some (.int a2), none] (Nat.le_of_ble_eq_true rfl) rfl (fun Γ h hZ hTb f => ?_)
  refine v_aload_n (i := 0) h 0 1 dL_ways_0 rfl rfl ld0 ?_
  refine v_iload_n (i := 1) h 1 2 dL_ways_1 rfl rfl ld1 ?_
  refine v_iload_n (i := 2) h 2 3 dL_ways_2 rfl rfl ld2 ?_
  refine v_callVx h hZ hTb 3 7 dL_ways_3 cb_X3_setWay cv_X3_setWay hD lk_L_71 (rok (by decide) (by decide)) ⟨by decide, by decide⟩ hM rfl rfl (Nat.le_of_ble_eq_true rfl) [] ⟨0, 6, 7, 62⟩ [⟨0, 6, 11, 64⟩] rfl (fun _ h => nomatch h) (by decide) (by decide) ck_62 (by decide +kernel) rfl (fun n' q9 hn => ?_)
  refine v_astore_n (i := 3) h 7 8 dL_ways_7 rfl rfl (by decide) (so3 rfl) ?_
  refine v_ldc h 8 10 dL_ways_8 rfl kc_L_35 ?_
  exact v_ireth h 10 f dL_ways_10 rfl (by decide) (by decide) rfl hn rfl
set_option maxRecDepth 100000 in
theorem t_ways2 {E : EE} {w : Wo} {D : Nat} {fs : List Value} {a1 a2 : Int32} (hD : w.2 D = some (.inr (3, fs))) (hM : Cthr E mX3_setWay w [.ref D, .int a1, .int a2] xA) : Ch E mL_ways hL_ways w [.ref D, .int a1, .int a2] (-100002) w := by
  refine Ch.of RL rfl (by decide) [some (.ref D), some (.int a1), some (.int a2), none] (Nat.le_of_ble_eq_true rfl) rfl (fun Γ h hZ hTb f => ?_)
  refine v_aload_n (i := 0) h 0 1 dL_ways_0 rfl rfl ld0 ?_
  refine v_iload_n (i := 1) h 1 2 dL_ways_1 rfl rfl ld1 ?_
  refine v_iload_n (i := 2) h 2 3 dL_ways_2 rfl rfl ld2 ?_
  refine v_callVx h hZ hTb 3 11 dL_ways_3 cb_X3_setWay cv_X3_setWay hD lk_L_71 (rok (by decide) (by decide)) ⟨by decide, by decide⟩ hM rfl rfl (Nat.le_of_ble_eq_true rfl) [⟨0, 6, 7, 62⟩] ⟨0, 6, 11, 64⟩ [] rfl (fun z h => by
    rw [List.mem_singleton.mp h]
    exact ⟨by decide, _, ck_62, Or.inl ⟨rfl, rfl⟩⟩) (by decide) (by decide) ck_64 (by decide +kernel) rfl (fun n' q9 hn => ?_)
  refine v_astore_n (i := 3) h 11 12 dL_ways_11 rfl rfl (by decide) (so3 rfl) ?_
  refine v_ldc h 12 14 dL_ways_12 rfl kc_L_44 ?_
  exact v_ireth h 14 f dL_ways_14 rfl (by decide) (by decide) rfl hn rfl
def hL_colds : HH := [((0 : Nat), (6 : Nat), (7 : Nat), (62 : Nat)), ((0 : Nat), (6 : Nat), (11 : Nat), (64 : Nat)), ((0 : Nat), (6 : Nat), (15 : Nat), (66 : Nat))]
theorem cb_L_colds : CBW mL_colds hL_colds 3 := ⟨tg 331 (by decide +kernel) (by decide +kernel), by decide +kernel, by decide +kernel, by decide +kernel⟩
theorem cb_Lz_colds : CBW mLz_colds hL_colds 3 := ⟨tg 331 (by decide +kernel) (by decide +kernel), by decide +kernel, by decide +kernel, by decide +kernel⟩
set_option maxRecDepth 100000 in
theorem g_colds {E : EE} {w w2 : Wo} {D : Nat} {fs : List Value} {a1 a2 : Int32} {r : Int32} (hD : w.2 D = some (.inr (3, fs))) (hM : Cd E mX3z_setCold w [.ref D, .int a1, .int a2] (some (.int r)) w2) : Ch E mLz_colds hL_colds w [.ref D, .int a1, .int a2] r w2 := by
  refine Ch.of RL rfl (by decide) [some (.ref D), some (.int a1), some (.int a2), none] (Nat.le_of_ble_eq_true rfl) rfl (fun Γ h hZ hTb f => ?_)
  refine v_aload_n (i := 0) h 0 1 dL_colds_0 rfl rfl ld0 ?_
  refine v_iload_n (i := 1) h 1 2 dL_colds_1 rfl rfl ld1 ?_
  refine v_iload_n (i := 2) h 2 3 dL_colds_2 rfl rfl ld2 ?_
  refine v_callV1 h 3 6 dL_colds_3 rfl cb_X3z_setCold cv_X3z_setCold hD lk_L_74 (rok (by decide) (by decide)) ⟨rfl, rfl⟩ ⟨Nat.zero_le _, Nat.zero_le _⟩ hM rfl rfl (Nat.le_of_ble_eq_true rfl) ?_
  exact v_ireth h 6 f dL_colds_6 rfl (by decide) (by decide) rfl (Nat.le_refl _) rfl
set_option maxRecDepth 100000 in
theorem t_colds1 {E : EE} {w : Wo} {D : Nat} {fs : List Value} {a1 a2 : Int32} (hD : w.2 D = some (.inr (3, fs))) (hM : Cthr E mX3_setCold w [.ref D, .int a1, .int a2] xI) : Ch E mL_colds hL_colds w [.ref D, .int a1, .int a2] (-100001) w := by
  refine Ch.of RL rfl (by decide) [some (.ref D), some (.int a1), some (.int a2), none] (Nat.le_of_ble_eq_true rfl) rfl (fun Γ h hZ hTb f => ?_)
  refine v_aload_n (i := 0) h 0 1 dL_colds_0 rfl rfl ld0 ?_
  refine v_iload_n (i := 1) h 1 2 dL_colds_1 rfl rfl ld1 ?_
  refine v_iload_n (i := 2) h 2 3 dL_colds_2 rfl rfl ld2 ?_
  refine v_callVx h hZ hTb 3 7 dL_colds_3 cb_X3_setCold cv_X3_setCold hD lk_L_74 (rok (by decide) (by decide)) ⟨by decide, by decide⟩ hM rfl rfl (Nat.le_of_ble_eq_true rfl) [] ⟨0, 6, 7, 62⟩ [⟨0, 6, 11, 64⟩, ⟨0, 6, 15, 66⟩] rfl (fun _ h => nomatch h) (by decide) (by decide) ck_62 (by decide +kernel) rfl (fun n' q9 hn => ?_)
  refine v_astore_n (i := 3) h 7 8 dL_colds_7 rfl rfl (by decide) (so3 rfl) ?_
  refine v_ldc h 8 10 dL_colds_8 rfl kc_L_35 ?_
  exact v_ireth h 10 f dL_colds_10 rfl (by decide) (by decide) rfl hn rfl
set_option maxRecDepth 100000 in
theorem t_colds2 {E : EE} {w : Wo} {D : Nat} {fs : List Value} {a1 a2 : Int32} (hD : w.2 D = some (.inr (3, fs))) (hM : Cthr E mX3_setCold w [.ref D, .int a1, .int a2] xA) : Ch E mL_colds hL_colds w [.ref D, .int a1, .int a2] (-100002) w := by
  refine Ch.of RL rfl (by decide) [some (.ref D), some (.int a1), some (.int a2), none] (Nat.le_of_ble_eq_true rfl) rfl (fun Γ h hZ hTb f => ?_)
  refine v_aload_n (i := 0) h 0 1 dL_colds_0 rfl rfl ld0 ?_
  refine v_iload_n (i := 1) h 1 2 dL_colds_1 rfl rfl ld1 ?_
  refine v_iload_n (i := 2) h 2 3 dL_colds_2 rfl rfl ld2 ?_
  refine v_callVx h hZ hTb 3 11 dL_colds_3 cb_X3_setCold cv_X3_setCold hD lk_L_74 (rok (by decide) (by decide)) ⟨by decide, by decide⟩ hM rfl rfl (Nat.le_of_ble_eq_true rfl) [⟨0, 6, 7, 62⟩] ⟨0, 6, 11, 64⟩ [⟨0, 6, 15, 66⟩] rfl (fun z h => by
    rw [List.mem_singleton.mp h]
    exact ⟨by decide, _, ck_62, Or.inl ⟨rfl, rfl⟩⟩) (by decide) (by decide) ck_64 (by decide +kernel) rfl (fun n' q9 hn => ?_)
  refine v_astore_n (i := 3) h 11 12 dL_colds_11 rfl rfl (by decide) (so3 rfl) ?_
  refine v_ldc h 12 14 dL_colds_12 rfl kc_L_44 ?_
  exact v_ireth h 14 f dL_colds_14 rfl (by decide) (by decide) rfl hn rfl
set_option maxRecDepth 100000 in
theorem t_colds3 {E : EE} {w : Wo} {D : Nat} {fs : List Value} {a1 a2 : Int32} (hD : w.2 D = some (.inr (3, fs))) (hM : Cthr E mX3_setCold w [.ref D, .int a1, .int a2] xS) : Ch E mL_colds hL_colds w [.ref D, .int a1, .int a2] (-100003) w := by
  refine Ch.of RL rfl (by decide) [some (.ref D), some (.int a1), some (.int a2), none] (Nat.le_of_ble_eq_true rfl) rfl (fun Γ h hZ hTb f => ?_)
  refine v_aload_n (i := 0) h 0 1 dL_colds_0 rfl rfl ld0 ?_
  refine v_iload_n (i := 1) h 1 2 dL_colds_1 rfl rfl ld1 ?_
  refine v_iload_n (i := 2) h 2 3 dL_colds_2 rfl rfl ld2 ?_
  refine v_callVx h hZ hTb 3 15 dL_colds_3 cb_X3_setCold cv_X3_setCold hD lk_L_74 (rok (by decide) (by decide)) ⟨by decide, by decide⟩ hM rfl rfl (Nat.le_of_ble_eq_true rfl) [⟨0, 6, 7, 62⟩, ⟨0, 6, 11, 64⟩] ⟨0, 6, 15, 66⟩ [] rfl (fun z h => by
    rcases List.mem_cons.mp h with rfl | h
    · exact ⟨by decide, _, ck_62, Or.inr (Or.inl ⟨rfl, rfl⟩)⟩
    · rw [List.mem_singleton.mp h]
      exact ⟨by decide, _, ck_64, Or.inr (Or.inr ⟨rfl, rfl⟩)⟩) (by decide) (by decide) ck_66 (by decide +kernel) rfl (fun n' q9 hn => ?_)
  refine v_astore_n (i := 3) h 15 16 dL_colds_15 rfl rfl (by decide) (so3 rfl) ?_
  refine v_ldc h 16 18 dL_colds_16 rfl kc_L_36 ?_
  exact v_ireth h 18 f dL_colds_18 rfl (by decide) (by decide) rfl hn rfl
def hL_calls : HH := [((0 : Nat), (5 : Nat), (6 : Nat), (62 : Nat))]
theorem cb_L_calls : CBW mL_calls hL_calls 2 := ⟨tg 359 (by decide +kernel) (by decide +kernel), by decide +kernel, by decide +kernel, by decide +kernel⟩
theorem cb_Lz_calls : CBW mLz_calls hL_calls 2 := ⟨tg 359 (by decide +kernel) (by decide +kernel), by decide +kernel, by decide +kernel, by decide +kernel⟩
set_option maxRecDepth 100000 in
theorem g_calls {E : EE} {w w2 : Wo} {D : Nat} {fs : List Value} {a1 : Int32} {r : Int32} (hD : w.2 D = some (.inr (3, fs))) (hM : Cd E mX3z_callOff w [.ref D, .int a1] (some (.int r)) w2) : Ch E mLz_calls hL_calls w [.ref D, .int a1] r w2 := by
  refine Ch.of RL rfl (by decide) [some (.ref D), some (.int a1), none] (Nat.le_of_ble_eq_true rfl) rfl (fun Γ h hZ hTb f => ?_)
  refine v_aload_n (i := 0) h 0 1 dL_calls_0 rfl rfl ld0 ?_
  refine v_iload_n (i := 1) h 1 2 dL_calls_1 rfl rfl ld1 ?_
  refine v_callV1 h 2 5 dL_calls_2 rfl cb_X3z_callOff cv_X3z_callOff hD lk_L_77 (rok (by decide) (by decide)) ⟨rfl, rfl⟩ ⟨Nat.zero_le _, Nat.zero_le _⟩ hM rfl rfl (Nat.le_of_ble_eq_true rfl) ?_
  exact v_ireth h 5 f dL_calls_5 rfl (by decide) (by decide) rfl (Nat.le_refl _) rfl
set_option maxRecDepth 100000 in
theorem t_calls1 {E : EE} {w : Wo} {D : Nat} {fs : List Value} {a1 : Int32} (hD : w.2 D = some (.inr (3, fs))) (hM : Cthr E mX3_callOff w [.ref D, .int a1] xI) : Ch E mL_calls hL_calls w [.ref D, .int a1] (-100001) w := by
  refine Ch.of RL rfl (by decide) [some (.ref D), some (.int a1), none] (Nat.le_of_ble_eq_true rfl) rfl (fun Γ h hZ hTb f => ?_)
  refine v_aload_n (i := 0) h 0 1 dL_calls_0 rfl rfl ld0 ?_
  refine v_iload_n (i := 1) h 1 2 dL_calls_1 rfl rfl ld1 ?_
  refine v_callVx h hZ hTb 2 6 dL_calls_2 cb_X3_callOff cv_X3_callOff hD lk_L_77 (rok (by decide) (by decide)) ⟨by decide, by decide⟩ hM rfl rfl (Nat.le_of_ble_eq_true rfl) [] ⟨0, 5, 6, 62⟩ [] rfl (fun _ h => nomatch h) (by decide) (by decide) ck_62 (by decide +kernel) rfl (fun n' q9 hn => ?_)
  refine v_astore_n (i := 2) h 6 7 dL_calls_6 rfl rfl (by decide) (so2 rfl) ?_
  refine v_ldc h 7 9 dL_calls_7 rfl kc_L_35 ?_
  exact v_ireth h 9 f dL_calls_9 rfl (by decide) (by decide) rfl hn rfl
def hL_passes : HH := [((0 : Nat), (5 : Nat), (6 : Nat), (64 : Nat)), ((0 : Nat), (5 : Nat), (10 : Nat), (66 : Nat))]
theorem cb_L_passes : CBW mL_passes hL_passes 2 := ⟨tg 399 (by decide +kernel) (by decide +kernel), by decide +kernel, by decide +kernel, by decide +kernel⟩
theorem cb_Lz_passes : CBW mLz_passes hL_passes 2 := ⟨tg 399 (by decide +kernel) (by decide +kernel), by decide +kernel, by decide +kernel, by decide +kernel⟩
set_option maxRecDepth 100000 in
theorem g_passes {E : EE} {w w2 : Wo} {D : Nat} {fs : List Value} {a1 : Int32} {r : Int32} (hD : w.2 D = some (.inr (3, fs))) (hM : Cd E mX3z_pass w [.ref D, .int a1] (some (.int r)) w2) : Ch E mLz_passes hL_passes w [.ref D, .int a1] r w2 := by
  refine Ch.of RL rfl (by decide) [some (.ref D), some (.int a1), none] (Nat.le_of_ble_eq_true rfl) rfl (fun Γ h hZ hTb f => ?_)
  refine v_aload_n (i := 0) h 0 1 dL_passes_0 rfl rfl ld0 ?_
  refine v_iload_n (i := 1) h 1 2 dL_passes_1 rfl rfl ld1 ?_
  refine v_callV1 h 2 5 dL_passes_2 rfl cb_X3z_pass cv_X3z_pass hD lk_L_81 (rok (by decide) (by decide)) ⟨rfl, rfl⟩ ⟨Nat.zero_le _, Nat.zero_le _⟩ hM rfl rfl (Nat.le_of_ble_eq_true rfl) ?_
  exact v_ireth h 5 f dL_passes_5 rfl (by decide) (by decide) rfl (Nat.le_refl _) rfl
set_option maxRecDepth 100000 in
theorem t_passes2 {E : EE} {w : Wo} {D : Nat} {fs : List Value} {a1 : Int32} (hD : w.2 D = some (.inr (3, fs))) (hM : Cthr E mX3_pass w [.ref D, .int a1] xA) : Ch E mL_passes hL_passes w [.ref D, .int a1] (-100002) w := by
  refine Ch.of RL rfl (by decide) [some (.ref D), some (.int a1), none] (Nat.le_of_ble_eq_true rfl) rfl (fun Γ h hZ hTb f => ?_)
  refine v_aload_n (i := 0) h 0 1 dL_passes_0 rfl rfl ld0 ?_
  refine v_iload_n (i := 1) h 1 2 dL_passes_1 rfl rfl ld1 ?_
  refine v_callVx h hZ hTb 2 6 dL_passes_2 cb_X3_pass cv_X3_pass hD lk_L_81 (rok (by decide) (by decide)) ⟨by decide, by decide⟩ hM rfl rfl (Nat.le_of_ble_eq_true rfl) [] ⟨0, 5, 6, 64⟩ [⟨0, 5, 10, 66⟩] rfl (fun _ h => nomatch h) (by decide) (by decide) ck_64 (by decide +kernel) rfl (fun n' q9 hn => ?_)
  refine v_astore_n (i := 2) h 6 7 dL_passes_6 rfl rfl (by decide) (so2 rfl) ?_
  refine v_ldc h 7 9 dL_passes_7 rfl kc_L_44 ?_
  exact v_ireth h 9 f dL_passes_9 rfl (by decide) (by decide) rfl hn rfl
set_option maxRecDepth 100000 in
theorem t_passes3 {E : EE} {w : Wo} {D : Nat} {fs : List Value} {a1 : Int32} (hD : w.2 D = some (.inr (3, fs))) (hM : Cthr E mX3_pass w [.ref D, .int a1] xS) : Ch E mL_passes hL_passes w [.ref D, .int a1] (-100003) w := by
  refine Ch.of RL rfl (by decide) [some (.ref D), some (.int a1), none] (Nat.le_of_ble_eq_true rfl) rfl (fun Γ h hZ hTb f => ?_)
  refine v_aload_n (i := 0) h 0 1 dL_passes_0 rfl rfl ld0 ?_
  refine v_iload_n (i := 1) h 1 2 dL_passes_1 rfl rfl ld1 ?_
  refine v_callVx h hZ hTb 2 10 dL_passes_2 cb_X3_pass cv_X3_pass hD lk_L_81 (rok (by decide) (by decide)) ⟨by decide, by decide⟩ hM rfl rfl (Nat.le_of_ble_eq_true rfl) [⟨0, 5, 6, 64⟩] ⟨0, 5, 10, 66⟩ [] rfl (fun z h => by
    rw [List.mem_singleton.mp h]
    exact ⟨by decide, _, ck_64, Or.inr (Or.inr ⟨rfl, rfl⟩)⟩) (by decide) (by decide) ck_66 (by decide +kernel) rfl (fun n' q9 hn => ?_)
  refine v_astore_n (i := 2) h 10 11 dL_passes_10 rfl rfl (by decide) (so2 rfl) ?_
  refine v_ldc h 11 13 dL_passes_11 rfl kc_L_36 ?_
  exact v_ireth h 13 f dL_passes_13 rfl (by decide) (by decide) rfl hn rfl
def hL_chairOf : HH := [((0 : Nat), (6 : Nat), (7 : Nat), (62 : Nat)), ((0 : Nat), (6 : Nat), (11 : Nat), (64 : Nat))]
theorem cb_L_chairOf : CBW mL_chairOf hL_chairOf 3 := ⟨tg 540 (by decide +kernel) (by decide +kernel), by decide +kernel, by decide +kernel, by decide +kernel⟩
theorem cb_Lz_chairOf : CBW mLz_chairOf hL_chairOf 3 := ⟨tg 540 (by decide +kernel) (by decide +kernel), by decide +kernel, by decide +kernel, by decide +kernel⟩
set_option maxRecDepth 100000 in
theorem g_chairOf {E : EE} {w w2 : Wo} {D : Nat} {fs : List Value} {a1 a2 : Int32} {r : Int32} (hD : w.2 D = some (.inr (3, fs))) (hM : Cd E mX3z_chair w [.ref D, .int a1, .int a2] (some (.int r)) w2) : Ch E mLz_chairOf hL_chairOf w [.ref D, .int a1, .int a2] r w2 := by
  refine Ch.of RL rfl (by decide) [some (.ref D), some (.int a1), some (.int a2), none] (Nat.le_of_ble_eq_true rfl) rfl (fun Γ h hZ hTb f => ?_)
  refine v_aload_n (i := 0) h 0 1 dL_chairOf_0 rfl rfl ld0 ?_
  refine v_iload_n (i := 1) h 1 2 dL_chairOf_1 rfl rfl ld1 ?_
  refine v_iload_n (i := 2) h 2 3 dL_chairOf_2 rfl rfl ld2 ?_
  refine v_callV1 h 3 6 dL_chairOf_3 rfl cb_X3z_chair cv_X3z_chair hD lk_L_84 (rok (by decide) (by decide)) ⟨rfl, rfl⟩ ⟨Nat.zero_le _, Nat.zero_le _⟩ hM rfl rfl (Nat.le_of_ble_eq_true rfl) ?_
  exact v_ireth h 6 f dL_chairOf_6 rfl (by decide) (by decide) rfl (Nat.le_refl _) rfl
set_option maxRecDepth 100000 in
theorem t_chairOf1 {E : EE} {w : Wo} {D : Nat} {fs : List Value} {a1 a2 : Int32} (hD : w.2 D = some (.inr (3, fs))) (hM : Cthr E mX3_chair w [.ref D, .int a1, .int a2] xI) : Ch E mL_chairOf hL_chairOf w [.ref D, .int a1, .int a2] (-100001) w := by
  refine Ch.of RL rfl (by decide) [some (.ref D), some (.int a1), some (.int a2), none] (Nat.le_of_ble_eq_true rfl) rfl (fun Γ h hZ hTb f => ?_)
  refine v_aload_n (i := 0) h 0 1 dL_chairOf_0 rfl rfl ld0 ?_
  refine v_iload_n (i := 1) h 1 2 dL_chairOf_1 rfl rfl ld1 ?_
  refine v_iload_n (i := 2) h 2 3 dL_chairOf_2 rfl rfl ld2 ?_
  refine v_callVx h hZ hTb 3 7 dL_chairOf_3 cb_X3_chair cv_X3_chair hD lk_L_84 (rok (by decide) (by decide)) ⟨by decide, by decide⟩ hM rfl rfl (Nat.le_of_ble_eq_true rfl) [] ⟨0, 6, 7, 62⟩ [⟨0, 6, 11, 64⟩] rfl (fun _ h => nomatch h) (by decide) (by decide) ck_62 (by decide +kernel) rfl (fun n' q9 hn => ?_)
  refine v_astore_n (i := 3) h 7 8 dL_chairOf_7 rfl rfl (by decide) (so3 rfl) ?_
  refine v_ldc h 8 10 dL_chairOf_8 rfl kc_L_35 ?_
  exact v_ireth h 10 f dL_chairOf_10 rfl (by decide) (by decide) rfl hn rfl
set_option maxRecDepth 100000 in
theorem t_chairOf2 {E : EE} {w : Wo} {D : Nat} {fs : List Value} {a1 a2 : Int32} (hD : w.2 D = some (.inr (3, fs))) (hM : Cthr E mX3_chair w [.ref D, .int a1, .int a2] xA) : Ch E mL_chairOf hL_chairOf w [.ref D, .int a1, .int a2] (-100002) w := by
  refine Ch.of RL rfl (by decide) [some (.ref D), some (.int a1), some (.int a2), none] (Nat.le_of_ble_eq_true rfl) rfl (fun Γ h hZ hTb f => ?_)
  refine v_aload_n (i := 0) h 0 1 dL_chairOf_0 rfl rfl ld0 ?_
  refine v_iload_n (i := 1) h 1 2 dL_chairOf_1 rfl rfl ld1 ?_
  refine v_iload_n (i := 2) h 2 3 dL_chairOf_2 rfl rfl ld2 ?_
  refine v_callVx h hZ hTb 3 11 dL_chairOf_3 cb_X3_chair cv_X3_chair hD lk_L_84 (rok (by decide) (by decide)) ⟨by decide, by decide⟩ hM rfl rfl (Nat.le_of_ble_eq_true rfl) [⟨0, 6, 7, 62⟩] ⟨0, 6, 11, 64⟩ [] rfl (fun z h => by
    rw [List.mem_singleton.mp h]
    exact ⟨by decide, _, ck_62, Or.inl ⟨rfl, rfl⟩⟩) (by decide) (by decide) ck_64 (by decide +kernel) rfl (fun n' q9 hn => ?_)
  refine v_astore_n (i := 3) h 11 12 dL_chairOf_11 rfl rfl (by decide) (so3 rfl) ?_
  refine v_ldc h 12 14 dL_chairOf_12 rfl kc_L_44 ?_
  exact v_ireth h 14 f dL_chairOf_14 rfl (by decide) (by decide) rfl hn rfl
def hL_teamOf : HH := [((0 : Nat), (6 : Nat), (7 : Nat), (62 : Nat)), ((0 : Nat), (6 : Nat), (11 : Nat), (64 : Nat))]
theorem cb_L_teamOf : CBW mL_teamOf hL_teamOf 3 := ⟨tg 561 (by decide +kernel) (by decide +kernel), by decide +kernel, by decide +kernel, by decide +kernel⟩
theorem cb_Lz_teamOf : CBW mLz_teamOf hL_teamOf 3 := ⟨tg 561 (by decide +kernel) (by decide +kernel), by decide +kernel, by decide +kernel, by decide +kernel⟩
set_option maxRecDepth 100000 in
theorem g_teamOf {E : EE} {w w2 : Wo} {D : Nat} {fs : List Value} {a1 a2 : Int32} {r : Int32} (hD : w.2 D = some (.inr (3, fs))) (hM : Cd E mX3z_team w [.ref D, .int a1, .int a2] (some (.int r)) w2) : Ch E mLz_teamOf hL_teamOf w [.ref D, .int a1, .int a2] r w2 := by
  refine Ch.of RL rfl (by decide) [some (.ref D), some (.int a1), some (.int a2), none] (Nat.le_of_ble_eq_true rfl) rfl (fun Γ h hZ hTb f => ?_)
  refine v_aload_n (i := 0) h 0 1 dL_teamOf_0 rfl rfl ld0 ?_
  refine v_iload_n (i := 1) h 1 2 dL_teamOf_1 rfl rfl ld1 ?_
  refine v_iload_n (i := 2) h 2 3 dL_teamOf_2 rfl rfl ld2 ?_
  refine v_callV1 h 3 6 dL_teamOf_3 rfl cb_X3z_team cv_X3z_team hD lk_L_87 (rok (by decide) (by decide)) ⟨rfl, rfl⟩ ⟨Nat.zero_le _, Nat.zero_le _⟩ hM rfl rfl (Nat.le_of_ble_eq_true rfl) ?_
  exact v_ireth h 6 f dL_teamOf_6 rfl (by decide) (by decide) rfl (Nat.le_refl _) rfl
set_option maxRecDepth 100000 in
theorem t_teamOf1 {E : EE} {w : Wo} {D : Nat} {fs : List Value} {a1 a2 : Int32} (hD : w.2 D = some (.inr (3, fs))) (hM : Cthr E mX3_team w [.ref D, .int a1, .int a2] xI) : Ch E mL_teamOf hL_teamOf w [.ref D, .int a1, .int a2] (-100001) w := by
  refine Ch.of RL rfl (by decide) [some (.ref D), some (.int a1), some (.int a2), none] (Nat.le_of_ble_eq_true rfl) rfl (fun Γ h hZ hTb f => ?_)
  refine v_aload_n (i := 0) h 0 1 dL_teamOf_0 rfl rfl ld0 ?_
  refine v_iload_n (i := 1) h 1 2 dL_teamOf_1 rfl rfl ld1 ?_
  refine v_iload_n (i := 2) h 2 3 dL_teamOf_2 rfl rfl ld2 ?_
  refine v_callVx h hZ hTb 3 7 dL_teamOf_3 cb_X3_team cv_X3_team hD lk_L_87 (rok (by decide) (by decide)) ⟨by decide, by decide⟩ hM rfl rfl (Nat.le_of_ble_eq_true rfl) [] ⟨0, 6, 7, 62⟩ [⟨0, 6, 11, 64⟩] rfl (fun _ h => nomatch h) (by decide) (by decide) ck_62 (by decide +kernel) rfl (fun n' q9 hn => ?_)
  refine v_astore_n (i := 3) h 7 8 dL_teamOf_7 rfl rfl (by decide) (so3 rfl) ?_
  refine v_ldc h 8 10 dL_teamOf_8 rfl kc_L_35 ?_
  exact v_ireth h 10 f dL_teamOf_10 rfl (by decide) (by decide) rfl hn rfl
set_option maxRecDepth 100000 in
theorem t_teamOf2 {E : EE} {w : Wo} {D : Nat} {fs : List Value} {a1 a2 : Int32} (hD : w.2 D = some (.inr (3, fs))) (hM : Cthr E mX3_team w [.ref D, .int a1, .int a2] xA) : Ch E mL_teamOf hL_teamOf w [.ref D, .int a1, .int a2] (-100002) w := by
  refine Ch.of RL rfl (by decide) [some (.ref D), some (.int a1), some (.int a2), none] (Nat.le_of_ble_eq_true rfl) rfl (fun Γ h hZ hTb f => ?_)
  refine v_aload_n (i := 0) h 0 1 dL_teamOf_0 rfl rfl ld0 ?_
  refine v_iload_n (i := 1) h 1 2 dL_teamOf_1 rfl rfl ld1 ?_
  refine v_iload_n (i := 2) h 2 3 dL_teamOf_2 rfl rfl ld2 ?_
  refine v_callVx h hZ hTb 3 11 dL_teamOf_3 cb_X3_team cv_X3_team hD lk_L_87 (rok (by decide) (by decide)) ⟨by decide, by decide⟩ hM rfl rfl (Nat.le_of_ble_eq_true rfl) [⟨0, 6, 7, 62⟩] ⟨0, 6, 11, 64⟩ [] rfl (fun z h => by
    rw [List.mem_singleton.mp h]
    exact ⟨by decide, _, ck_62, Or.inl ⟨rfl, rfl⟩⟩) (by decide) (by decide) ck_64 (by decide +kernel) rfl (fun n' q9 hn => ?_)
  refine v_astore_n (i := 3) h 11 12 dL_teamOf_11 rfl rfl (by decide) (so3 rfl) ?_
  refine v_ldc h 12 14 dL_teamOf_12 rfl kc_L_44 ?_
  exact v_ireth h 14 f dL_teamOf_14 rfl (by decide) (by decide) rfl hn rfl
def hL_valueOf : HH := [((0 : Nat), (5 : Nat), (6 : Nat), (64 : Nat))]
theorem cb_L_valueOf : CBW mL_valueOf hL_valueOf 2 := ⟨tg 486 (by decide +kernel) (by decide +kernel), by decide +kernel, by decide +kernel, by decide +kernel⟩
theorem cb_Lz_valueOf : CBW mLz_valueOf hL_valueOf 2 := ⟨tg 486 (by decide +kernel) (by decide +kernel), by decide +kernel, by decide +kernel, by decide +kernel⟩
set_option maxRecDepth 100000 in
theorem g_valueOf {E : EE} {w w2 : Wo} {D : Nat} {fs : List Value} {a1 : Int32} {r : Int32} (hD : w.2 D = some (.inr (3, fs))) (hM : Cd E mX3z_value w [.ref D, .int a1] (some (.int r)) w2) : Ch E mLz_valueOf hL_valueOf w [.ref D, .int a1] r w2 := by
  refine Ch.of RL rfl (by decide) [some (.ref D), some (.int a1), none] (Nat.le_of_ble_eq_true rfl) rfl (fun Γ h hZ hTb f => ?_)
  refine v_aload_n (i := 0) h 0 1 dL_valueOf_0 rfl rfl ld0 ?_
  refine v_iload_n (i := 1) h 1 2 dL_valueOf_1 rfl rfl ld1 ?_
  refine v_callV1 h 2 5 dL_valueOf_2 rfl cb_X3z_value cv_X3z_value hD lk_L_90 (rok (by decide) (by decide)) ⟨rfl, rfl⟩ ⟨Nat.zero_le _, Nat.zero_le _⟩ hM rfl rfl (Nat.le_of_ble_eq_true rfl) ?_
  exact v_ireth h 5 f dL_valueOf_5 rfl (by decide) (by decide) rfl (Nat.le_refl _) rfl
set_option maxRecDepth 100000 in
theorem t_valueOf2 {E : EE} {w : Wo} {D : Nat} {fs : List Value} {a1 : Int32} (hD : w.2 D = some (.inr (3, fs))) (hM : Cthr E mX3_value w [.ref D, .int a1] xA) : Ch E mL_valueOf hL_valueOf w [.ref D, .int a1] (-100002) w := by
  refine Ch.of RL rfl (by decide) [some (.ref D), some (.int a1), none] (Nat.le_of_ble_eq_true rfl) rfl (fun Γ h hZ hTb f => ?_)
  refine v_aload_n (i := 0) h 0 1 dL_valueOf_0 rfl rfl ld0 ?_
  refine v_iload_n (i := 1) h 1 2 dL_valueOf_1 rfl rfl ld1 ?_
  refine v_callVx h hZ hTb 2 6 dL_valueOf_2 cb_X3_value cv_X3_value hD lk_L_90 (rok (by decide) (by decide)) ⟨by decide, by decide⟩ hM rfl rfl (Nat.le_of_ble_eq_true rfl) [] ⟨0, 5, 6, 64⟩ [] rfl (fun _ h => nomatch h) (by decide) (by decide) ck_64 (by decide +kernel) rfl (fun n' q9 hn => ?_)
  refine v_astore_n (i := 2) h 6 7 dL_valueOf_6 rfl rfl (by decide) (so2 rfl) ?_
  refine v_ldc h 7 9 dL_valueOf_7 rfl kc_L_44 ?_
  exact v_ireth h 9 f dL_valueOf_9 rfl (by decide) (by decide) rfl hn rfl
def hL_wayOf : HH := [((0 : Nat), (6 : Nat), (7 : Nat), (62 : Nat))]
theorem cb_L_wayOf : CBW mL_wayOf hL_wayOf 3 := ⟨tg 510 (by decide +kernel) (by decide +kernel), by decide +kernel, by decide +kernel, by decide +kernel⟩
theorem cb_Lz_wayOf : CBW mLz_wayOf hL_wayOf 3 := ⟨tg 510 (by decide +kernel) (by decide +kernel), by decide +kernel, by decide +kernel, by decide +kernel⟩
set_option maxRecDepth 100000 in
theorem g_wayOf {E : EE} {w w2 : Wo} {D : Nat} {fs : List Value} {a1 a2 : Int32} {r : Int32} (hD : w.2 D = some (.inr (3, fs))) (hM : Cd E mX3z_way w [.ref D, .int a1, .int a2] (some (.int r)) w2) : Ch E mLz_wayOf hL_wayOf w [.ref D, .int a1, .int a2] r w2 := by
  refine Ch.of RL rfl (by decide) [some (.ref D), some (.int a1), some (.int a2), none] (Nat.le_of_ble_eq_true rfl) rfl (fun Γ h hZ hTb f => ?_)
  refine v_aload_n (i := 0) h 0 1 dL_wayOf_0 rfl rfl ld0 ?_
  refine v_iload_n (i := 1) h 1 2 dL_wayOf_1 rfl rfl ld1 ?_
  refine v_iload_n (i := 2) h 2 3 dL_wayOf_2 rfl rfl ld2 ?_
  refine v_callV1 h 3 6 dL_wayOf_3 rfl cb_X3z_way cv_X3z_way hD lk_L_93 (rok (by decide) (by decide)) ⟨rfl, rfl⟩ ⟨Nat.zero_le _, Nat.zero_le _⟩ hM rfl rfl (Nat.le_of_ble_eq_true rfl) ?_
  exact v_ireth h 6 f dL_wayOf_6 rfl (by decide) (by decide) rfl (Nat.le_refl _) rfl
set_option maxRecDepth 100000 in
theorem t_wayOf1 {E : EE} {w : Wo} {D : Nat} {fs : List Value} {a1 a2 : Int32} (hD : w.2 D = some (.inr (3, fs))) (hM : Cthr E mX3_way w [.ref D, .int a1, .int a2] xI) : Ch E mL_wayOf hL_wayOf w [.ref D, .int a1, .int a2] (-100001) w := by
  refine Ch.of RL rfl (by decide) [some (.ref D), some (.int a1), some (.int a2), none] (Nat.le_of_ble_eq_true rfl) rfl (fun Γ h hZ hTb f => ?_)
  refine v_aload_n (i := 0) h 0 1 dL_wayOf_0 rfl rfl ld0 ?_
  refine v_iload_n (i := 1) h 1 2 dL_wayOf_1 rfl rfl ld1 ?_
  refine v_iload_n (i := 2) h 2 3 dL_wayOf_2 rfl rfl ld2 ?_
  refine v_callVx h hZ hTb 3 7 dL_wayOf_3 cb_X3_way cv_X3_way hD lk_L_93 (rok (by decide) (by decide)) ⟨by decide, by decide⟩ hM rfl rfl (Nat.le_of_ble_eq_true rfl) [] ⟨0, 6, 7, 62⟩ [] rfl (fun _ h => nomatch h) (by decide) (by decide) ck_62 (by decide +kernel) rfl (fun n' q9 hn => ?_)
  refine v_astore_n (i := 3) h 7 8 dL_wayOf_7 rfl rfl (by decide) (so3 rfl) ?_
  refine v_ldc h 8 10 dL_wayOf_8 rfl kc_L_35 ?_
  exact v_ireth h 10 f dL_wayOf_10 rfl (by decide) (by decide) rfl hn rfl
def hL_workOf : HH := [((0 : Nat), (6 : Nat), (7 : Nat), (62 : Nat))]
theorem cb_L_workOf : CBW mL_workOf hL_workOf 3 := ⟨tg 552 (by decide +kernel) (by decide +kernel), by decide +kernel, by decide +kernel, by decide +kernel⟩
theorem cb_Lz_workOf : CBW mLz_workOf hL_workOf 3 := ⟨tg 552 (by decide +kernel) (by decide +kernel), by decide +kernel, by decide +kernel, by decide +kernel⟩
set_option maxRecDepth 100000 in
theorem g_workOf {E : EE} {w w2 : Wo} {D : Nat} {fs : List Value} {a1 a2 : Int32} {r : Int32} (hD : w.2 D = some (.inr (3, fs))) (hM : Cd E mX3z_work w [.ref D, .int a1, .int a2] (some (.int r)) w2) : Ch E mLz_workOf hL_workOf w [.ref D, .int a1, .int a2] r w2 := by
  refine Ch.of RL rfl (by decide) [some (.ref D), some (.int a1), some (.int a2), none] (Nat.le_of_ble_eq_true rfl) rfl (fun Γ h hZ hTb f => ?_)
  refine v_aload_n (i := 0) h 0 1 dL_workOf_0 rfl rfl ld0 ?_
  refine v_iload_n (i := 1) h 1 2 dL_workOf_1 rfl rfl ld1 ?_
  refine v_iload_n (i := 2) h 2 3 dL_workOf_2 rfl rfl ld2 ?_
  refine v_callV1 h 3 6 dL_workOf_3 rfl cb_X3z_work cv_X3z_work hD lk_L_96 (rok (by decide) (by decide)) ⟨rfl, rfl⟩ ⟨Nat.zero_le _, Nat.zero_le _⟩ hM rfl rfl (Nat.le_of_ble_eq_true rfl) ?_
  exact v_ireth h 6 f dL_workOf_6 rfl (by decide) (by decide) rfl (Nat.le_refl _) rfl
set_option maxRecDepth 100000 in
theorem t_workOf1 {E : EE} {w : Wo} {D : Nat} {fs : List Value} {a1 a2 : Int32} (hD : w.2 D = some (.inr (3, fs))) (hM : Cthr E mX3_work w [.ref D, .int a1, .int a2] xI) : Ch E mL_workOf hL_workOf w [.ref D, .int a1, .int a2] (-100001) w := by
  refine Ch.of RL rfl (by decide) [some (.ref D), some (.int a1), some (.int a2), none] (Nat.le_of_ble_eq_true rfl) rfl (fun Γ h hZ hTb f => ?_)
  refine v_aload_n (i := 0) h 0 1 dL_workOf_0 rfl rfl ld0 ?_
  refine v_iload_n (i := 1) h 1 2 dL_workOf_1 rfl rfl ld1 ?_
  refine v_iload_n (i := 2) h 2 3 dL_workOf_2 rfl rfl ld2 ?_
  refine v_callVx h hZ hTb 3 7 dL_workOf_3 cb_X3_work cv_X3_work hD lk_L_96 (rok (by decide) (by decide)) ⟨by decide, by decide⟩ hM rfl rfl (Nat.le_of_ble_eq_true rfl) [] ⟨0, 6, 7, 62⟩ [] rfl (fun _ h => nomatch h) (by decide) (by decide) ck_62 (by decide +kernel) rfl (fun n' q9 hn => ?_)
  refine v_astore_n (i := 3) h 7 8 dL_workOf_7 rfl rfl (by decide) (so3 rfl) ?_
  refine v_ldc h 8 10 dL_workOf_8 rfl kc_L_35 ?_
  exact v_ireth h 10 f dL_workOf_10 rfl (by decide) (by decide) rfl hn rfl
def hL_journalOf : HH := [((0 : Nat), (5 : Nat), (6 : Nat), (62 : Nat))]
theorem cb_L_journalOf : CBW mL_journalOf hL_journalOf 2 := ⟨tg 580 (by decide +kernel) (by decide +kernel), by decide +kernel, by decide +kernel, by decide +kernel⟩
theorem cb_Lz_journalOf : CBW mLz_journalOf hL_journalOf 2 := ⟨tg 580 (by decide +kernel) (by decide +kernel), by decide +kernel, by decide +kernel, by decide +kernel⟩
set_option maxRecDepth 100000 in
theorem g_journalOf {E : EE} {w w2 : Wo} {D : Nat} {fs : List Value} {a1 : Int32} {r : Int32} (hD : w.2 D = some (.inr (3, fs))) (hM : Cd E mX3z_journal w [.ref D, .int a1] (some (.int r)) w2) : Ch E mLz_journalOf hL_journalOf w [.ref D, .int a1] r w2 := by
  refine Ch.of RL rfl (by decide) [some (.ref D), some (.int a1), none] (Nat.le_of_ble_eq_true rfl) rfl (fun Γ h hZ hTb f => ?_)
  refine v_aload_n (i := 0) h 0 1 dL_journalOf_0 rfl rfl ld0 ?_
  refine v_iload_n (i := 1) h 1 2 dL_journalOf_1 rfl rfl ld1 ?_
  refine v_callV1 h 2 5 dL_journalOf_2 rfl cb_X3z_journal cv_X3z_journal hD lk_L_98 (rok (by decide) (by decide)) ⟨rfl, rfl⟩ ⟨Nat.zero_le _, Nat.zero_le _⟩ hM rfl rfl (Nat.le_of_ble_eq_true rfl) ?_
  exact v_ireth h 5 f dL_journalOf_5 rfl (by decide) (by decide) rfl (Nat.le_refl _) rfl
set_option maxRecDepth 100000 in
theorem t_journalOf1 {E : EE} {w : Wo} {D : Nat} {fs : List Value} {a1 : Int32} (hD : w.2 D = some (.inr (3, fs))) (hM : Cthr E mX3_journal w [.ref D, .int a1] xI) : Ch E mL_journalOf hL_journalOf w [.ref D, .int a1] (-100001) w := by
  refine Ch.of RL rfl (by decide) [some (.ref D), some (.int a1), none] (Nat.le_of_ble_eq_true rfl) rfl (fun Γ h hZ hTb f => ?_)
  refine v_aload_n (i := 0) h 0 1 dL_journalOf_0 rfl rfl ld0 ?_
  refine v_iload_n (i := 1) h 1 2 dL_journalOf_1 rfl rfl ld1 ?_
  refine v_callVx h hZ hTb 2 6 dL_journalOf_2 cb_X3_journal cv_X3_journal hD lk_L_98 (rok (by decide) (by decide)) ⟨by decide, by decide⟩ hM rfl rfl (Nat.le_of_ble_eq_true rfl) [] ⟨0, 5, 6, 62⟩ [] rfl (fun _ h => nomatch h) (by decide) (by decide) ck_62 (by decide +kernel) rfl (fun n' q9 hn => ?_)
  refine v_astore_n (i := 2) h 6 7 dL_journalOf_6 rfl rfl (by decide) (so2 rfl) ?_
  refine v_ldc h 7 9 dL_journalOf_7 rfl kc_L_35 ?_
  exact v_ireth h 9 f dL_journalOf_9 rfl (by decide) (by decide) rfl hn rfl
def hL_chosenAt : HH := [((0 : Nat), (5 : Nat), (6 : Nat), (62 : Nat))]
theorem cb_L_chosenAt : CBW mL_chosenAt hL_chosenAt 2 := ⟨tg 572 (by decide +kernel) (by decide +kernel), by decide +kernel, by decide +kernel, by decide +kernel⟩
theorem cb_Lz_chosenAt : CBW mLz_chosenAt hL_chosenAt 2 := ⟨tg 572 (by decide +kernel) (by decide +kernel), by decide +kernel, by decide +kernel, by decide +kernel⟩
set_option maxRecDepth 100000 in
theorem g_chosenAt {E : EE} {w w2 : Wo} {D : Nat} {fs : List Value} {a1 : Int32} {r : Int32} (hD : w.2 D = some (.inr (3, fs))) (hM : Cd E mX3z_chosen w [.ref D, .int a1] (some (.int r)) w2) : Ch E mLz_chosenAt hL_chosenAt w [.ref D, .int a1] r w2 := by
  refine Ch.of RL rfl (by decide) [some (.ref D), some (.int a1), none] (Nat.le_of_ble_eq_true rfl) rfl (fun Γ h hZ hTb f => ?_)
  refine v_aload_n (i := 0) h 0 1 dL_chosenAt_0 rfl rfl ld0 ?_
  refine v_iload_n (i := 1) h 1 2 dL_chosenAt_1 rfl rfl ld1 ?_
  refine v_callV1 h 2 5 dL_chosenAt_2 rfl cb_X3z_chosen cv_X3z_chosen hD lk_L_101 (rok (by decide) (by decide)) ⟨rfl, rfl⟩ ⟨Nat.zero_le _, Nat.zero_le _⟩ hM rfl rfl (Nat.le_of_ble_eq_true rfl) ?_
  exact v_ireth h 5 f dL_chosenAt_5 rfl (by decide) (by decide) rfl (Nat.le_refl _) rfl
set_option maxRecDepth 100000 in
theorem t_chosenAt1 {E : EE} {w : Wo} {D : Nat} {fs : List Value} {a1 : Int32} (hD : w.2 D = some (.inr (3, fs))) (hM : Cthr E mX3_chosen w [.ref D, .int a1] xI) : Ch E mL_chosenAt hL_chosenAt w [.ref D, .int a1] (-100001) w := by
  refine Ch.of RL rfl (by decide) [some (.ref D), some (.int a1), none] (Nat.le_of_ble_eq_true rfl) rfl (fun Γ h hZ hTb f => ?_)
  refine v_aload_n (i := 0) h 0 1 dL_chosenAt_0 rfl rfl ld0 ?_
  refine v_iload_n (i := 1) h 1 2 dL_chosenAt_1 rfl rfl ld1 ?_
  refine v_callVx h hZ hTb 2 6 dL_chosenAt_2 cb_X3_chosen cv_X3_chosen hD lk_L_101 (rok (by decide) (by decide)) ⟨by decide, by decide⟩ hM rfl rfl (Nat.le_of_ble_eq_true rfl) [] ⟨0, 5, 6, 62⟩ [] rfl (fun _ h => nomatch h) (by decide) (by decide) ck_62 (by decide +kernel) rfl (fun n' q9 hn => ?_)
  refine v_astore_n (i := 2) h 6 7 dL_chosenAt_6 rfl rfl (by decide) (so2 rfl) ?_
  refine v_ldc h 7 9 dL_chosenAt_7 rfl kc_L_35 ?_
  exact v_ireth h 9 f dL_chosenAt_9 rfl (by decide) (by decide) rfl hn rfl
