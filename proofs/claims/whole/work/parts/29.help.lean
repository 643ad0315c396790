/-! THE LAW'S HELPERS: each calls, tells what was thrown, or lays the answer in the row -/
theorem ck_13 : Cond.classLink RL 13 xI ∈ Tg := tg 408 (by decide +kernel) (by decide +kernel)
theorem ck_15 : Cond.classLink RL 15 xA ∈ Tg := tg 409 (by decide +kernel) (by decide +kernel)
theorem ck_17 : Cond.classLink RL 17 xS ∈ Tg := tg 410 (by decide +kernel) (by decide +kernel)
abbrev HH : Type := List (Nat × Nat × Nat × Nat)
def Qh (E : EE) (r : Int32) (w2 : Wo) : Array Value → State → Outcome → State → Prop := va_Qi (fun x (n : Nat) => x = r ∧ w2.1 ≤ n) (fun n t => HP E (n, w2.2) t.heap) E.2.2
def XF (E : EE) : String → State → State → Prop := vx_X (fun _ : Unit => False) (fun _ _ _ => False) E.2.2
/-- a helper's contract: from w with these arguments it answers r, and the world is w2, some more cells beside -/
def Ch (E : EE) (M : MI) (hh : HH) (w : Wo) (as : List Value) (r : Int32) (w2 : Wo) : Prop := vx_Met E.1 (mY M) (.codeWith (mY M) (mC M) (mL M) (mT M) hh :: Tg) (mR M) (PZ E w as) (Qh E r w2) (XF E) (mR M).cells (mR M).slots E.2.2
def ZG (E : EE) (Γ : Cx) : Prop := match Γ with | (_, _, _, s, _, _, _, _, _, _) => ZZ E s s.heap
def TbG (Γ : Cx) (hh : HH) : Prop := match Γ with | (_, _, _, _, _, _, _, _, c, _) => c.exceptionTable.toList = tableOf hh
def Fh (E : EE) (Γ : Cx) (M : MI) (r : Int32) (w2 : Wo) : Prop := match Γ with
  | (_, _, _, s, _, args, below, meth, _, Q) => meth.sig.returnType = mT M ∧ Q = vx_MQ below (Qh E r w2) (XF E) args s (mR M).cells (mR M).slots E.2.2
theorem Ch.of {E : EE} {M : MI} {hh : HH} {w w2 : Wo} {as : List Value} {r : Int32} (own : String) (hown : (mY M).cls = own) (hpl : plainName (mY M).cls = true) (L0 : Lo) (hlen : (lg_sl as).length ≤ mL M) (hL0 : loE as (mL M) = L0)
    (body : ∀ Γ : Cx, OkB E Γ M own → ZG E Γ → TbG Γ hh → Fh E Γ M r w2 → V E Γ 0 0 0 L0 [] w) : Ch E M hh w as r w2 := by
  subst hL0
  refine vx_ofWH (cc := mC M) (maxL := mL M) (ret := mT M) (hh := hh) hpl rfl ?_
  intro p e s m args below meth c s₁ B hml hv
  obtain ⟨rfl, hP, hK, hA, hZ⟩ := hv
  have hts := atoms_spec (ws := .codeWith (mY M) (mC M) (mL M) (mT M) hh :: Tg) B.pre
  have h := body (p, e, mR M, s, m, as.toArray, below, meth, c, vx_MQ below (Qh E r w2) (XF E) as.toArray s (mR M).cells (mR M).slots E.2.2)
    ⟨B.exec, B.bytes, hml, by rw [← hown]; exact findClass_of_methodNamed B.named, fun w hw => hts w (List.mem_cons_of_mem _ hw), B.notSynchronized, hK, rfl, hA⟩
    hZ (vx_table (x := mY M) B (hts _ List.mem_cons_self)) ⟨B.returns, rfl⟩
  rw [lg_entry_eq]
  have hl := lv_entry as (n := mL M) hlen
  refine h s.heap [] _ hP va_S.rf ?_
  rw [hml]
  exact ⟨hl.1, hl.2.1, fun k v hk => hl.2.2 (k, v) (loE_in as _ k v hk)⟩
def CBW (M : MI) (hh : HH) (n : Nat) : Prop := Cond.codeWith (mY M) (mC M) (mL M) (mT M) hh ∈ Tg ∧ (mY M).cls ≠ "java/lang/invoke/MethodHandle" ∧ (mY M).cls ≠ "java/lang/invoke/VarHandle" ∧ (parseMethodDescriptor (mY M).desc).map (fun d => d.parameters.length) = some n
def NZ (X nm : String) : Prop := (X = xA ∧ nm = xI) ∨ (X = xS ∧ nm = xI) ∨ (X = xS ∧ nm = xA)
section HROWS
variable {E : EE} {Γ : Cx} {M M2 : MI} {own : String} {k n : Nat} {L : Lo} {st st0 as : List Value} {w w2 : Wo} {idx ci b np : Nat} {fs : List Value} {hh : HH}
theorem v_ireth (h : OkB E Γ M own) (pc : Nat) {x r : Int32} (f : Fh E Γ M r w2) (hd : decode (mC M) pc = .ok (.ireturn, 1)) (hT : mT M = some .int) (hk : k ≤ (mR M).cells) (hn : n ≤ (mR M).slots) (hr : x = r) (hz : w2.1 ≤ w.1) (hw : w.2 = w2.2) : V E Γ k n pc L (.int x :: []) w := by
  obtain ⟨p, e, R, s, m, args, below, meth, c, Q⟩ := Γ
  obtain ⟨hx, hb, hml, hown, hts, hlk, hK, hR, hA0⟩ := h
  intro H locs ls hP hS hl
  obtain ⟨hrt, rfl⟩ := f
  refine vx_ret (W.widen hk hn ?_)
  exact W.iret (v := x) hx hb (hrt.trans hT) (fun t ht hW => ⟨⟨x, w.1, rfl, ⟨hr, hz⟩, by show HP E (w.1, w2.2) t.heap; rw [ht, ← hw]; exact hP⟩, hS.F ht⟩) hS.2.2 hd hlk
theorem v_callVx (h : OkB E Γ M own) (hZ : ZG E Γ) (hTb : TbG Γ hh) (pc q : Nat) {X : String} (hd : decode (mC M) pc = .ok (.invokevirtual idx, 3)) (hb2 : CB M2 np) (hv : CV M2 ci) (hw : w.2 b = some (.inr (ci, fs))) (hl2 : Cond.methodLink own idx (mY M2) ∈ Tg) (hR2 : RoomOK M M2) (hkn : k + (mR M2).cells ≤ (mR M).cells ∧ n + (mR M2).slots ≤ (mR M).slots) (hM : Cthr E M2 w (.ref b :: as) X) (hn : as.length = np) (hst : st0 = as.reverse ++ .ref b :: st) (hcat : (st.map fun v => v.category).sum ≤ 8)
    (pre : List ExceptionTableEntry) (x : ExceptionTableEntry) (suf : List ExceptionTableEntry) (hsplit : tableOf hh = pre ++ x :: suf) (hpre : ∀ z ∈ pre, z.catchType ≠ 0 ∧ ∃ nm, Cond.classLink own z.catchType nm ∈ Tg ∧ NZ X nm) (hcov : covers x pc = true) (h0 : x.catchType ≠ 0) (hck : Cond.classLink own x.catchType X ∈ Tg) (hXa : X ∈ xAll) (hpc : x.handlerPc = q)
    (kk : ∀ (n' : Nat) (q9 : Nat), w.1 ≤ n' → V E Γ (k + (mR M2).cells) (n + (mR M2).slots) q L [.ref q9] (n', w.2)) : V E Γ k n pc L st0 w := by
  obtain ⟨p, e, R, s, m, args, below, meth, c, Q⟩ := Γ
  obtain ⟨hx, hb, hml, hown, hts, hlk, hK, hR, hA0⟩ := h
  subst hst; subst hR; subst hpc
  intro H locs ls hP hS hl
  obtain ⟨c1, c2, c3, c4⟩ := hb2
  obtain ⟨T9, N9, v1, v2, v3, v4⟩ := hv
  have hr := vx_runV (e := e) (below := below) (meth := meth) (As := as) (rest := st) (b := b) (g := F0 m pc ls (as.reverse ++ .ref b :: st)) (locs := locs) (cells := k) (slots := n) ⟨hx, hb, hml, hown, hts⟩ hM (cwV (C := (mY M2).cls) np hts (tg_in (fun w hw => by
      rcases List.mem_append.mp hw with h | h
      · rcases List.mem_cons.mp h with rfl | h
        · exact hl2
        · rcases List.mem_cons.mp h with rfl | h
          · exact v2
          · rcases List.mem_cons.mp h with rfl | h
            · exact v3
            · rw [List.mem_singleton.mp h]; exact v4
      · rcases List.mem_cons.mp h with rfl | h
        · exact c1
        · exact h)) rfl rfl rfl ⟨rfl, c2, c3, c4⟩ hR2)
    ⟨fun a U g mk q => PZ.blind q, va_recv (tys := gtys E) hK (one_P (hP.2 b _ hw).2) (ci := ci) (q0 := 0) v1 rfl, fun U hU hW => ⟨rfl, by rw [hU]; exact hP, va_K.moved hW.alike hK, by rw [hU]; exact fun q hq => hA0 q (Nat.le_trans hS.1 hq), by rw [hU]; exact ZZ.go hZ hS hW⟩⟩ rfl hn (hl.1.trans hml) rfl (lv_room (pc := pc) (ls := ls) (rest := as.reverse ++ .ref b :: st) hcat) hd hkn
  unfold NQ XQ at hr
  refine vx_calli hr hS (fun q _ h => h) (fun _ h => h) (fun q _ h => h) ?_ ?_
  · intro E1 ce q9 u t H1 locs1 e1 hal hpx hBX hz hkeep hS1 hcell hvm hcl
    obtain ⟨rfl, hP1⟩ := hBX
    rw [e1] at hP1
    have hZ' : ZZ E s s.heap := hZ
    refine vx_catch hown pre x suf (Eq.trans hTb hsplit) (fun z hz => ?_) hcov h0 (hts _ hck) (va_Nw.use rfl (hZ'.2.2.2.1 _ hXa)) hcell hvm hcl (kk u q9 hpx H1 locs1 ls hP1 hS1 hl)
    obtain ⟨z0, nm, z1, z2⟩ := hpre z hz
    refine Or.inr ⟨z0, nm, hts _ z1, ?_⟩
    rcases z2 with ⟨a, b⟩ | ⟨a, b⟩ | ⟨a, b⟩ <;> rw [a, b]
    · exact hZ'.2.2.1.1
    · exact hZ'.2.2.1.2.1
    · exact hZ'.2.2.1.2.2
  · intro r u t H1 locs1 _ _ hf
    exact hf.elim
theorem v_callS1h (h : OkB E Γ M own) (hZ : ZG E Γ) (pc q : Nat) {r : Int32} (hd : decode (mC M) pc = .ok (.invokestatic idx, 3)) (hq : pc + 3 = q) (hb2 : CBW M2 hh np) (hs : CS M2) (hl2 : Cond.methodLink own idx (mY M2) ∈ Tg) (hR2 : RoomOK M M2) (hkn : k + (mR M2).cells ≤ (mR M).cells ∧ n + (mR M2).slots ≤ (mR M).slots) (hM : Ch E M2 hh w as r w2) (hn : as.length = np) (hst : st0 = as.reverse ++ st) (hcat : (st.map fun v => v.category).sum ≤ 8) (kk : ∀ n', w2.1 ≤ n' → V E Γ (k + (mR M2).cells) (n + (mR M2).slots) q L (.int r :: st) (n', w2.2)) : V E Γ k n pc L st0 w := by
  obtain ⟨p, e, R, s, m, args, below, meth, c, Q⟩ := Γ
  obtain ⟨hx, hb, hml, hown, hts, hlk, hK, hR, hA0⟩ := h
  subst hq; subst hst; subst hR
  intro H locs ls hP hS hl
  obtain ⟨c1, c2, c3, c4⟩ := hb2
  obtain ⟨v2, v4⟩ := hs
  have hr := vx_runSX (e := e) (below := below) (meth := meth) (As := as) (rest := st) (g := F0 m pc ls (as.reverse ++ st)) (locs := locs) (cells := k) (slots := n) ⟨hx, hb, hml, hown, hts⟩ hM (vx_cwSW np hts (tg_in (fun w hw => by
      rcases List.mem_append.mp hw with h | h
      · rcases List.mem_cons.mp h with rfl | h
        · exact hl2
        · rcases List.mem_cons.mp h with rfl | h
          · exact v2
          · rw [List.mem_singleton.mp h]; exact v4
      · rcases List.mem_cons.mp h with rfl | h
        · exact c1
        · exact h)) rfl rfl rfl ⟨c2, c3, c4⟩ hR2)
    ⟨fun a U g mk q => PZ.blind q, fun U hU hW => ⟨rfl, by rw [hU]; exact hP, va_K.moved hW.alike hK, by rw [hU]; exact fun q hq => hA0 q (Nat.le_trans hS.1 hq), by rw [hU]; exact ZZ.go hZ hS hW⟩⟩ rfl hn (hl.1.trans hml) rfl (lv_room (pc := pc) (ls := ls) (rest := as.reverse ++ st) hcat) hd hkn
  unfold Qh XF at hr
  refine vx_calli hr hS (fun q _ h => h) (fun _ h => h) (fun q _ h => h) ?_ ?_
  · intro E1 ce q9 u t H1 locs1 _ _ hf
    exact hf.elim
  · intro r' u t H1 locs1 e1 hal hpost hB hz hkeep hS1
    obtain ⟨rfl, hu⟩ := hpost
    rw [e1] at hB
    exact kk u hu H1 locs1 ls hB hS1 hl
end HROWS
def hL_addChair : HH := [((0 : Nat), (14 : Nat), (17 : Nat), (13 : Nat)), ((0 : Nat), (14 : Nat), (21 : Nat), (15 : Nat)), ((0 : Nat), (14 : Nat), (25 : Nat), (17 : Nat))]
theorem cb_L_addChair : CBW mL_addChair hL_addChair 6 := ⟨tg 407 (by decide +kernel) (by decide +kernel), by decide +kernel, by decide +kernel, by decide +kernel⟩
set_option maxRecDepth 100000 in
theorem g_addChair {E : EE} {w w2 : Wo} {D O : Nat} {fs : List Value} {g : Nat → Int64} {a1 a2 a3 a4 : Int32} {r : Int32} (hD : w.2 D = some (.inr (3, fs))) (hO : w2.2 O = some (.inl (gJ E, 1, .inr (.inl g)))) (hM : Cd E mX3_addChair w [.ref D, .int a1, .int a2, .int a3, .int a4] (some (.int r)) w2) : Ch E mL_addChair hL_addChair w [.ref D, .int a1, .int a2, .int a3, .int a4, .ref O] 0 (wup w2 O (.inl (gJ E, 1, .inr (.inl (vp_updL g 0 r.toInt64))))) := by
  refine Ch.of RL rfl (by decide) [some (.ref D), some (.int a1), some (.int a2), some (.int a3), some (.int a4), some (.ref O), none] (Nat.le_of_ble_eq_true rfl) rfl (fun Γ h hZ hTb f => ?_)
  refine v_aload (i := 5) h 0 2 dL_addChair_0 rfl ld5 ?_
  refine v_iconst (v := nI 0) h 2 3 dL_addChair_2 rfl (by decide) ?_
  refine v_aload_n (i := 0) h 3 4 dL_addChair_3 rfl rfl ld0 ?_
  refine v_iload_n (i := 1) h 4 5 dL_addChair_4 rfl rfl ld1 ?_
  refine v_iload_n (i := 2) h 5 6 dL_addChair_5 rfl rfl ld2 ?_
  refine v_iload_n (i := 3) h 6 7 dL_addChair_6 rfl rfl ld3 ?_
  refine v_iload (i := 4) h 7 9 dL_addChair_7 rfl ld4 ?_
  refine v_callV1a h 9 12 dL_addChair_9 rfl cb_X3_addChair cv_X3_addChair hD lk_L_7 (rok (by decide) (by decide)) ⟨by decide, by decide⟩ hM rfl rfl (Nat.le_of_ble_eq_true rfl) ?_
  refine v_i2l h 12 13 dL_addChair_12 rfl rfl ?_
  refine v_last h 13 14 dL_addChair_13 rfl hO (vp_in_nI (n := 0) (by omega) (by decide)) ?_
  rw [nI_clamp (by omega)]
  refine v_goto h 14 29 dL_addChair_14 (by decide) ?_
  refine v_iconst (v := 0) h 29 30 dL_addChair_29 rfl (by decide) ?_
  exact v_ireth h 30 f dL_addChair_30 rfl (by decide) (by decide) rfl (Nat.le_refl _) rfl
set_option maxRecDepth 100000 in
theorem t_addChair1 {E : EE} {w : Wo} {D O : Nat} {fs : List Value} {a1 a2 a3 a4 : Int32} (hD : w.2 D = some (.inr (3, fs))) (hM : Cthr E mX3_addChair w [.ref D, .int a1, .int a2, .int a3, .int a4] xI) : Ch E mL_addChair hL_addChair w [.ref D, .int a1, .int a2, .int a3, .int a4, .ref O] 1 w := by
  refine Ch.of RL rfl (by decide) [some (.ref D), some (.int a1), some (.int a2), some (.int a3), some (.int a4), some (.ref O), none] (Nat.le_of_ble_eq_true rfl) rfl (fun Γ h hZ hTb f => ?_)
  refine v_aload (i := 5) h 0 2 dL_addChair_0 rfl ld5 ?_
  refine v_iconst (v := nI 0) h 2 3 dL_addChair_2 rfl (by decide) ?_
  refine v_aload_n (i := 0) h 3 4 dL_addChair_3 rfl rfl ld0 ?_
  refine v_iload_n (i := 1) h 4 5 dL_addChair_4 rfl rfl ld1 ?_
  refine v_iload_n (i := 2) h 5 6 dL_addChair_5 rfl rfl ld2 ?_
  refine v_iload_n (i := 3) h 6 7 dL_addChair_6 rfl rfl ld3 ?_
  refine v_iload (i := 4) h 7 9 dL_addChair_7 rfl ld4 ?_
  refine v_callVx h hZ hTb 9 17 dL_addChair_9 cb_X3_addChair cv_X3_addChair hD lk_L_7 (rok (by decide) (by decide)) ⟨by decide, by decide⟩ hM rfl rfl (Nat.le_of_ble_eq_true rfl) [] ⟨0, 14, 17, 13⟩ [⟨0, 14, 21, 15⟩, ⟨0, 14, 25, 17⟩] rfl (fun _ h => nomatch h) (by decide) (by decide) ck_13 (by decide +kernel) rfl (fun n' q9 hn => ?_)
  refine v_astore (i := 6) h 17 19 dL_addChair_17 rfl (by decide) (so6 rfl) ?_
  refine v_iconst (v := 1) h 19 20 dL_addChair_19 rfl (by decide) ?_
  exact v_ireth h 20 f dL_addChair_20 rfl (by decide) (by decide) rfl hn rfl
set_option maxRecDepth 100000 in
theorem t_addChair2 {E : EE} {w : Wo} {D O : Nat} {fs : List Value} {a1 a2 a3 a4 : Int32} (hD : w.2 D = some (.inr (3, fs))) (hM : Cthr E mX3_addChair w [.ref D, .int a1, .int a2, .int a3, .int a4] xA) : Ch E mL_addChair hL_addChair w [.ref D, .int a1, .int a2, .int a3, .int a4, .ref O] 2 w := by
  refine Ch.of RL rfl (by decide) [some (.ref D), some (.int a1), some (.int a2), some (.int a3), some (.int a4), some (.ref O), none] (Nat.le_of_ble_eq_true rfl) rfl (fun Γ h hZ hTb f => ?_)
  refine v_aload (i := 5) h 0 2 dL_addChair_0 rfl ld5 ?_
  refine v_iconst (v := nI 0) h 2 3 dL_addChair_2 rfl (by decide) ?_
  refine v_aload_n (i := 0) h 3 4 dL_addChair_3 rfl rfl ld0 ?_
  refine v_iload_n (i := 1) h 4 5 dL_addChair_4 rfl rfl ld1 ?_
  refine v_iload_n (i := 2) h 5 6 dL_addChair_5 rfl rfl ld2 ?_
  refine v_iload_n (i := 3) h 6 7 dL_addChair_6 rfl rfl ld3 ?_
  refine v_iload (i := 4) h 7 9 dL_addChair_7 rfl ld4 ?_
  refine v_callVx h hZ hTb 9 21 dL_addChair_9 cb_X3_addChair cv_X3_addChair hD lk_L_7 (rok (by decide) (by decide)) ⟨by decide, by decide⟩ hM rfl rfl (Nat.le_of_ble_eq_true rfl) [⟨0, 14, 17, 13⟩] ⟨0, 14, 21, 15⟩ [⟨0, 14, 25, 17⟩] rfl (fun z h => by
    rw [List.mem_singleton.mp h]
    exact ⟨by decide, _, ck_13, Or.inl ⟨rfl, rfl⟩⟩) (by decide) (by decide) ck_15 (by decide +kernel) rfl (fun n' q9 hn => ?_)
  refine v_astore (i := 6) h 21 23 dL_addChair_21 rfl (by decide) (so6 rfl) ?_
  refine v_iconst (v := 2) h 23 24 dL_addChair_23 rfl (by decide) ?_
  exact v_ireth h 24 f dL_addChair_24 rfl (by decide) (by decide) rfl hn rfl
set_option maxRecDepth 100000 in
theorem t_addChair3 {E : EE} {w : Wo} {D O : Nat} {fs : List Value} {a1 a2 a3 a4 : Int32} (hD : w.2 D = some (.inr (3, fs))) (hM : Cthr E mX3_addChair w [.ref D, .int a1, .int a2, .int a3, .int a4] xS) : Ch E mL_addChair hL_addChair w [.ref D, .int a1, .int a2, .int a3, .int a4, .ref O] 3 w := by
  refine Ch.of RL rfl (by decide) [some (.ref D), some (.int a1), some (.int a2), some (.int a3), some (.int a4), some (.ref O), none] (Nat.le_of_ble_eq_true rfl) rfl (fun Γ h hZ hTb f => ?_)
  refine v_aload (i := 5) h 0 2 dL_addChair_0 rfl ld5 ?_
  refine v_iconst (v := nI 0) h 2 3 dL_addChair_2 rfl (by decide) ?_
  refine v_aload_n (i := 0) h 3 4 dL_addChair_3 rfl rfl ld0 ?_
  refine v_iload_n (i := 1) h 4 5 dL_addChair_4 rfl rfl ld1 ?_
  refine v_iload_n (i := 2) h 5 6 dL_addChair_5 rfl rfl ld2 ?_
  refine v_iload_n (i := 3) h 6 7 dL_addChair_6 rfl rfl ld3 ?_
  refine v_iload (i := 4) h 7 9 dL_addChair_7 rfl ld4 ?_
  refine v_callVx h hZ hTb 9 25 dL_addChair_9 cb_X3_addChair cv_X3_addChair hD lk_L_7 (rok (by decide) (by decide)) ⟨by decide, by decide⟩ hM rfl rfl (Nat.le_of_ble_eq_true rfl) [⟨0, 14, 17, 13⟩, ⟨0, 14, 21, 15⟩] ⟨0, 14, 25, 17⟩ [] rfl (fun z h => by
    rcases List.mem_cons.mp h with rfl | h
    · exact ⟨by decide, _, ck_13, Or.inr (Or.inl ⟨rfl, rfl⟩)⟩
    · rw [List.mem_singleton.mp h]
      exact ⟨by decide, _, ck_15, Or.inr (Or.inr ⟨rfl, rfl⟩)⟩) (by decide) (by decide) ck_17 (by decide +kernel) rfl (fun n' q9 hn => ?_)
  refine v_astore (i := 6) h 25 27 dL_addChair_25 rfl (by decide) (so6 rfl) ?_
  refine v_iconst (v := 3) h 27 28 dL_addChair_27 rfl (by decide) ?_
  exact v_ireth h 28 f dL_addChair_28 rfl (by decide) (by decide) rfl hn rfl
def hL_addTeam : HH := [((0 : Nat), (10 : Nat), (13 : Nat), (13 : Nat)), ((0 : Nat), (10 : Nat), (17 : Nat), (15 : Nat)), ((0 : Nat), (10 : Nat), (21 : Nat), (17 : Nat))]
theorem cb_L_addTeam : CBW mL_addTeam hL_addTeam 4 := ⟨tg 521 (by decide +kernel) (by decide +kernel), by decide +kernel, by decide +kernel, by decide +kernel⟩
set_option maxRecDepth 100000 in
theorem g_addTeam {E : EE} {w w2 : Wo} {D O : Nat} {fs : List Value} {g : Nat → Int64} {a1 a2 : Int32} {r : Int32} (hD : w.2 D = some (.inr (3, fs))) (hO : w2.2 O = some (.inl (gJ E, 1, .inr (.inl g)))) (hM : Cd E mX3_addTeam w [.ref D, .int a1, .int a2] (some (.int r)) w2) : Ch E mL_addTeam hL_addTeam w [.ref D, .int a1, .int a2, .ref O] 0 (wup w2 O (.inl (gJ E, 1, .inr (.inl (vp_updL g 0 r.toInt64))))) := by
  refine Ch.of RL rfl (by decide) [some (.ref D), some (.int a1), some (.int a2), some (.ref O), none] (Nat.le_of_ble_eq_true rfl) rfl (fun Γ h hZ hTb f => ?_)
  refine v_aload_n (i := 3) h 0 1 dL_addTeam_0 rfl rfl ld3 ?_
  refine v_iconst (v := nI 0) h 1 2 dL_addTeam_1 rfl (by decide) ?_
  refine v_aload_n (i := 0) h 2 3 dL_addTeam_2 rfl rfl ld0 ?_
  refine v_iload_n (i := 1) h 3 4 dL_addTeam_3 rfl rfl ld1 ?_
  refine v_iload_n (i := 2) h 4 5 dL_addTeam_4 rfl rfl ld2 ?_
  refine v_callV1a h 5 8 dL_addTeam_5 rfl cb_X3_addTeam cv_X3_addTeam hD lk_L_19 (rok (by decide) (by decide)) ⟨by decide, by decide⟩ hM rfl rfl (Nat.le_of_ble_eq_true rfl) ?_
  refine v_i2l h 8 9 dL_addTeam_8 rfl rfl ?_
  refine v_last h 9 10 dL_addTeam_9 rfl hO (vp_in_nI (n := 0) (by omega) (by decide)) ?_
  rw [nI_clamp (by omega)]
  refine v_goto h 10 25 dL_addTeam_10 (by decide) ?_
  refine v_iconst (v := 0) h 25 26 dL_addTeam_25 rfl (by decide) ?_
  exact v_ireth h 26 f dL_addTeam_26 rfl (by decide) (by decide) rfl (Nat.le_refl _) rfl
set_option maxRecDepth 100000 in
theorem t_addTeam1 {E : EE} {w : Wo} {D O : Nat} {fs : List Value} {a1 a2 : Int32} (hD : w.2 D = some (.inr (3, fs))) (hM : Cthr E mX3_addTeam w [.ref D, .int a1, .int a2] xI) : Ch E mL_addTeam hL_addTeam w [.ref D, .int a1, .int a2, .ref O] 1 w := by
  refine Ch.of RL rfl (by decide) [some (.ref D), some (.int a1), some (.int a2), some (.ref O), none] (Nat.le_of_ble_eq_true rfl) rfl (fun Γ h hZ hTb f => ?_)
  refine v_aload_n (i := 3) h 0 1 dL_addTeam_0 rfl rfl ld3 ?_
  refine v_iconst (v := nI 0) h 1 2 dL_addTeam_1 rfl (by decide) ?_
  refine v_aload_n (i := 0) h 2 3 dL_addTeam_2 rfl rfl ld0 ?_
  refine v_iload_n (i := 1) h 3 4 dL_addTeam_3 rfl rfl ld1 ?_
  refine v_iload_n (i := 2) h 4 5 dL_addTeam_4 rfl rfl ld2 ?_
  refine v_callVx h hZ hTb 5 13 dL_addTeam_5 cb_X3_addTeam cv_X3_addTeam hD lk_L_19 (rok (by decide) (by decide)) ⟨by decide, by decide⟩ hM rfl rfl (Nat.le_of_ble_eq_true rfl) [] ⟨0, 10, 13, 13⟩ [⟨0, 10, 17, 15⟩, ⟨0, 10, 21, 17⟩] rfl (fun _ h => nomatch h) (by decide) (by decide) ck_13 (by decide +kernel) rfl (fun n' q9 hn => ?_)
  refine v_astore (i := 4) h 13 15 dL_addTeam_13 rfl (by decide) (so4 rfl) ?_
  refine v_iconst (v := 1) h 15 16 dL_addTeam_15 rfl (by decide) ?_
  exact v_ireth h 16 f dL_addTeam_16 rfl (by decide) (by decide) rfl hn rfl
set_option maxRecDepth 100000 in
theorem t_addTeam2 {E : EE} {w : Wo} {D O : Nat} {fs : List Value} {a1 a2 : Int32} (hD : w.2 D = some (.inr (3, fs))) (hM : Cthr E mX3_addTeam w [.ref D, .int a1, .int a2] xA) : Ch E mL_addTeam hL_addTeam w [.ref D, .int a1, .int a2, .ref O] 2 w := by
  refine Ch.of RL rfl (by decide) [some (.ref D), some (.int a1), some (.int a2), some (.ref O), none] (Nat.le_of_ble_eq_true rfl) rfl (fun Γ h hZ hTb f => ?_)
  refine v_aload_n (i := 3) h 0 1 dL_addTeam_0 rfl rfl ld3 ?_
  refine v_iconst (v := nI 0) h 1 2 dL_addTeam_1 rfl (by decide) ?_
  refine v_aload_n (i := 0) h 2 3 dL_addTeam_2 rfl rfl ld0 ?_
  refine v_iload_n (i := 1) h 3 4 dL_addTeam_3 rfl rfl ld1 ?_
  refine v_iload_n (i := 2) h 4 5 dL_addTeam_4 rfl rfl ld2 ?_
  refine v_callVx h hZ hTb 5 17 dL_addTeam_5 cb_X3_addTeam cv_X3_addTeam hD lk_L_19 (rok (by decide) (by decide)) ⟨by decide, by decide⟩ hM rfl rfl (Nat.le_of_ble_eq_true rfl) [⟨0, 10, 13, 13⟩] ⟨0, 10, 17, 15⟩ [⟨0, 10, 21, 17⟩] rfl (fun z h => by
    rw [List.mem_singleton.mp h]
    exact ⟨by decide, _, ck_13, Or.inl ⟨rfl, rfl⟩⟩) (by decide) (by decide) ck_15 (by decide +kernel) rfl (fun n' q9 hn => ?_)
  refine v_astore (i := 4) h 17 19 dL_addTeam_17 rfl (by decide) (so4 rfl) ?_
  refine v_iconst (v := 2) h 19 20 dL_addTeam_19 rfl (by decide) ?_
  exact v_ireth h 20 f dL_addTeam_20 rfl (by decide) (by decide) rfl hn rfl
set_option maxRecDepth 100000 in
theorem t_addTeam3 {E : EE} {w : Wo} {D O : Nat} {fs : List Value} {a1 a2 : Int32} (hD : w.2 D = some (.inr (3, fs))) (hM : Cthr E mX3_addTeam w [.ref D, .int a1, .int a2] xS) : Ch E mL_addTeam hL_addTeam w [.ref D, .int a1, .int a2, .ref O] 3 w := by
  refine Ch.of RL rfl (by decide) [some (.ref D), some (.int a1), some (.int a2), some (.ref O), none] (Nat.le_of_ble_eq_true rfl) rfl (fun Γ h hZ hTb f => ?_)
  refine v_aload_n (i := 3) h 0 1 dL_addTeam_0 rfl rfl ld3 ?_
  refine v_iconst (v := nI 0) h 1 2 dL_addTeam_1 rfl (by decide) ?_
  refine v_aload_n (i := 0) h 2 3 dL_addTeam_2 rfl rfl ld0 ?_
  refine v_iload_n (i := 1) h 3 4 dL_addTeam_3 rfl rfl ld1 ?_
  refine v_iload_n (i := 2) h 4 5 dL_addTeam_4 rfl rfl ld2 ?_
  refine v_callVx h hZ hTb 5 21 dL_addTeam_5 cb_X3_addTeam cv_X3_addTeam hD lk_L_19 (rok (by decide) (by decide)) ⟨by decide, by decide⟩ hM rfl rfl (Nat.le_of_ble_eq_true rfl) [⟨0, 10, 13, 13⟩, ⟨0, 10, 17, 15⟩] ⟨0, 10, 21, 17⟩ [] rfl (fun z h => by
    rcases List.mem_cons.mp h with rfl | h
    · exact ⟨by decide, _, ck_13, Or.inr (Or.inl ⟨rfl, rfl⟩)⟩
    · rw [List.mem_singleton.mp h]
      exact ⟨by decide, _, ck_15, Or.inr (Or.inr ⟨rfl, rfl⟩)⟩) (by decide) (by decide) ck_17 (by decide +kernel) rfl (fun n' q9 hn => ?_)
  refine v_astore (i := 4) h 21 23 dL_addTeam_21 rfl (by decide) (so4 rfl) ?_
  refine v_iconst (v := 3) h 23 24 dL_addTeam_23 rfl (by decide) ?_
  exact v_ireth h 24 f dL_addTeam_24 rfl (by decide) (by decide) rfl hn rfl
def hL_setWay : HH := [((0 : Nat), (10 : Nat), (13 : Nat), (13 : Nat)), ((0 : Nat), (10 : Nat), (17 : Nat), (15 : Nat))]
theorem cb_L_setWay : CBW mL_setWay hL_setWay 4 := ⟨tg 530 (by decide +kernel) (by decide +kernel), by decide +kernel, by decide +kernel, by decide +kernel⟩
set_option maxRecDepth 100000 in
theorem g_setWay {E : EE} {w w2 : Wo} {D O : Nat} {fs : List Value} {g : Nat → Int64} {a1 a2 : Int32} {r : Int32} (hD : w.2 D = some (.inr (3, fs))) (hO : w2.2 O = some (.inl (gJ E, 1, .inr (.inl g)))) (hM : Cd E mX3_setWay w [.ref D, .int a1, .int a2] (some (.int r)) w2) : Ch E mL_setWay hL_setWay w [.ref D, .int a1, .int a2, .ref O] 0 (wup w2 O (.inl (gJ E, 1, .inr (.inl (vp_updL g 0 r.toInt64))))) := by
  refine Ch.of RL rfl (by decide) [some (.ref D), some (.int a1), some (.int a2), some (.ref O), none] (Nat.le_of_ble_eq_true rfl) rfl (fun Γ h hZ hTb f => ?_)
  refine v_aload_n (i := 3) h 0 1 dL_setWay_0 rfl rfl ld3 ?_
  refine v_iconst (v := nI 0) h 1 2 dL_setWay_1 rfl (by decide) ?_
  refine v_aload_n (i := 0) h 2 3 dL_setWay_2 rfl rfl ld0 ?_
  refine v_iload_n (i := 1) h 3 4 dL_setWay_3 rfl rfl ld1 ?_
  refine v_iload_n (i := 2) h 4 5 dL_setWay_4 rfl rfl ld2 ?_
  refine v_callV1a h 5 8 dL_setWay_5 rfl cb_X3_setWay cv_X3_setWay hD lk_L_23 (rok (by decide) (by decide)) ⟨by decide, by decide⟩ hM rfl rfl (Nat.le_of_ble_eq_true rfl) ?_
  refine v_i2l h 8 9 dL_setWay_8 rfl rfl ?_
  refine v_last h 9 10 dL_setWay_9 rfl hO (vp_in_nI (n := 0) (by omega) (by decide)) ?_
  rw [nI_clamp (by omega)]
  refine v_goto h 10 21 dL_setWay_10 (by decide) ?_
  refine v_iconst (v := 0) h 21 22 dL_setWay_21 rfl (by decide) ?_
  exact v_ireth h 22 f dL_setWay_22 rfl (by decide) (by decide) rfl (Nat.le_refl _) rfl
set_option maxRecDepth 100000 in
theorem t_setWay1 {E : EE} {w : Wo} {D O : Nat} {fs : List Value} {a1 a2 : Int32} (hD : w.2 D = some (.inr (3, fs))) (hM : Cthr E mX3_setWay w [.ref D, .int a1, .int a2] xI) : Ch E mL_setWay hL_setWay w [.ref D, .int a1, .int a2, .ref O] 1 w := by
  refine Ch.of RL rfl (by decide) [some (.ref D), some (.int a1), some (.int a2), some (.ref O), none] (Nat.le_of_ble_eq_true rfl) rfl (fun Γ h hZ hTb f => ?_)
  refine v_aload_n (i := 3) h 0 1 dL_setWay_0 rfl rfl ld3 ?_
  refine v_iconst (v := nI 0) h 1 2 dL_setWay_1 rfl (by decide) ?_
  refine v_aload_n (i := 0) h 2 3 dL_setWay_2 rfl rfl ld0 ?_
  refine v_iload_n (i := 1) h 3 4 dL_setWay_3 rfl rfl ld1 ?_
  refine v_iload_n (i := 2) h 4 5 dL_setWay_4 rfl rfl ld2 ?_
  refine v_callVx h hZ hTb 5 13 dL_setWay_5 cb_X3_setWay cv_X3_setWay hD lk_L_23 (rok (by decide) (by decide)) ⟨by decide, by decide⟩ hM rfl rfl (Nat.le_of_ble_eq_true rfl) [] ⟨0, 10, 13, 13⟩ [⟨0, 10, 17, 15⟩] rfl (fun _ h => nomatch h) (by decide) (by decide) ck_13 (by decide +kernel) rfl (fun n' q9 hn => ?_)
  refine v_astore (i := 4) h 13 15 dL_setWay_13 rfl (by decide) (so4 rfl) ?_
  refine v_iconst (v := 1) h 15 16 dL_setWay_15 rfl (by decide) ?_
  exact v_ireth h 16 f dL_setWay_16 rfl (by decide) (by decide) rfl hn rfl
set_option maxRecDepth 100000 in
theorem t_setWay2 {E : EE} {w : Wo} {D O : Nat} {fs : List Value} {a1 a2 : Int32} (hD : w.2 D = some (.inr (3, fs))) (hM : Cthr E mX3_setWay w [.ref D, .int a1, .int a2] xA) : Ch E mL_setWay hL_setWay w [.ref D, .int a1, .int a2, .ref O] 2 w := by
  refine Ch.of RL rfl (by decide) [some (.ref D), some (.int a1), some (.int a2), some (.ref O), none] (Nat.le_of_ble_eq_true rfl) rfl (fun Γ h hZ hTb f => ?_)
  refine v_aload_n (i := 3) h 0 1 dL_setWay_0 rfl rfl ld3 ?_
  refine v_iconst (v := nI 0) h 1 2 dL_setWay_1 rfl (by decide) ?_
  refine v_aload_n (i := 0) h 2 3 dL_setWay_2 rfl rfl ld0 ?_
  refine v_iload_n (i := 1) h 3 4 dL_setWay_3 rfl rfl ld1 ?_
  refine v_iload_n (i := 2) h 4 5 dL_setWay_4 rfl rfl ld2 ?_
  refine v_callVx h hZ hTb 5 17 dL_setWay_5 cb_X3_setWay cv_X3_setWay hD lk_L_23 (rok (by decide) (by decide)) ⟨by decide, by decide⟩ hM rfl rfl (Nat.le_of_ble_eq_true rfl) [⟨0, 10, 13, 13⟩] ⟨0, 10, 17, 15⟩ [] rfl (fun z h => by
    rw [List.mem_singleton.mp h]
    exact ⟨by decide, _, ck_13, Or.inl ⟨rfl, rfl⟩⟩) (by decide) (by decide) ck_15 (by decide +kernel) rfl (fun n' q9 hn => ?_)
  refine v_astore (i := 4) h 17 19 dL_setWay_17 rfl (by decide) (so4 rfl) ?_
  refine v_iconst (v := 2) h 19 20 dL_setWay_19 rfl (by decide) ?_
  exact v_ireth h 20 f dL_setWay_20 rfl (by decide) (by decide) rfl hn rfl
def hL_setCold : HH := [((0 : Nat), (10 : Nat), (13 : Nat), (13 : Nat)), ((0 : Nat), (10 : Nat), (17 : Nat), (15 : Nat)), ((0 : Nat), (10 : Nat), (21 : Nat), (17 : Nat))]
theorem cb_L_setCold : CBW mL_setCold hL_setCold 4 := ⟨tg 547 (by decide +kernel) (by decide +kernel), by decide +kernel, by decide +kernel, by decide +kernel⟩
set_option maxRecDepth 100000 in
theorem g_setCold {E : EE} {w w2 : Wo} {D O : Nat} {fs : List Value} {g : Nat → Int64} {a1 a2 : Int32} {r : Int32} (hD : w.2 D = some (.inr (3, fs))) (hO : w2.2 O = some (.inl (gJ E, 1, .inr (.inl g)))) (hM : Cd E mX3_setCold w [.ref D, .int a1, .int a2] (some (.int r)) w2) : Ch E mL_setCold hL_setCold w [.ref D, .int a1, .int a2, .ref O] 0 (wup w2 O (.inl (gJ E, 1, .inr (.inl (vp_updL g 0 r.toInt64))))) := by
  refine Ch.of RL rfl (by decide) [some (.ref D), some (.int a1), some (.int a2), some (.ref O), none] (Nat.le_of_ble_eq_true rfl) rfl (fun Γ h hZ hTb f => ?_)
  refine v_aload_n (i := 3) h 0 1 dL_setCold_0 rfl rfl ld3 ?_
  refine v_iconst (v := nI 0) h 1 2 dL_setCold_1 rfl (by decide) ?_
  refine v_aload_n (i := 0) h 2 3 dL_setCold_2 rfl rfl ld0 ?_
  refine v_iload_n (i := 1) h 3 4 dL_setCold_3 rfl rfl ld1 ?_
  refine v_iload_n (i := 2) h 4 5 dL_setCold_4 rfl rfl ld2 ?_
  refine v_callV1a h 5 8 dL_setCold_5 rfl cb_X3_setCold cv_X3_setCold hD lk_L_26 (rok (by decide) (by decide)) ⟨by decide, by decide⟩ hM rfl rfl (Nat.le_of_ble_eq_true rfl) ?_
  refine v_i2l h 8 9 dL_setCold_8 rfl rfl ?_
  refine v_last h 9 10 dL_setCold_9 rfl hO (vp_in_nI (n := 0) (by omega) (by decide)) ?_
  rw [nI_clamp (by omega)]
  refine v_goto h 10 25 dL_setCold_10 (by decide) ?_
  refine v_iconst (v := 0) h 25 26 dL_setCold_25 rfl (by decide) ?_
  exact v_ireth h 26 f dL_setCold_26 rfl (by decide) (by decide) rfl (Nat.le_refl _) rfl
set_option maxRecDepth 100000 in
theorem t_setCold1 {E : EE} {w : Wo} {D O : Nat} {fs : List Value} {a1 a2 : Int32} (hD : w.2 D = some (.inr (3, fs))) (hM : Cthr E mX3_setCold w [.ref D, .int a1, .int a2] xI) : Ch E mL_setCold hL_setCold w [.ref D, .int a1, .int a2, .ref O] 1 w := by
  refine Ch.of RL rfl (by decide) [some (.ref D), some (.int a1), some (.int a2), some (.ref O), none] (Nat.le_of_ble_eq_true rfl) rfl (fun Γ h hZ hTb f => ?_)
  refine v_aload_n (i := 3) h 0 1 dL_setCold_0 rfl rfl ld3 ?_
  refine v_iconst (v := nI 0) h 1 2 dL_setCold_1 rfl (by decide) ?_
  refine v_aload_n (i := 0) h 2 3 dL_setCold_2 rfl rfl ld0 ?_
  refine v_iload_n (i := 1) h 3 4 dL_setCold_3 rfl rfl ld1 ?_
  refine v_iload_n (i := 2) h 4 5 dL_setCold_4 rfl rfl ld2 ?_
  refine v_callVx h hZ hTb 5 13 dL_setCold_5 cb_X3_setCold cv_X3_setCold hD lk_L_26 (rok (by decide) (by decide)) ⟨by decide, by decide⟩ hM rfl rfl (Nat.le_of_ble_eq_true rfl) [] ⟨0, 10, 13, 13⟩ [⟨0, 10, 17, 15⟩, ⟨0, 10, 21, 17⟩] rfl (fun _ h => nomatch h) (by decide) (by decide) ck_13 (by decide +kernel) rfl (fun n' q9 hn => ?_)
  refine v_astore (i := 4) h 13 15 dL_setCold_13 rfl (by decide) (so4 rfl) ?_
  refine v_iconst (v := 1) h 15 16 dL_setCold_15 rfl (by decide) ?_
  exact v_ireth h 16 f dL_setCold_16 rfl (by decide) (by decide) rfl hn rfl
set_option maxRecDepth 100000 in
theorem t_setCold2 {E : EE} {w : Wo} {D O : Nat} {fs : List Value} {a1 a2 : Int32} (hD : w.2 D = some (.inr (3, fs))) (hM : Cthr E mX3_setCold w [.ref D, .int a1, .int a2] xA) : Ch E mL_setCold hL_setCold w [.ref D, .int a1, .int a2, .ref O] 2 w := by
  refine Ch.of RL rfl (by decide) [some (.ref D), some (.int a1), some (.int a2), some (.ref O), none] (Nat.le_of_ble_eq_true rfl) rfl (fun Γ h hZ hTb f => ?_)
  refine v_aload_n (i := 3) h 0 1 dL_setCold_0 rfl rfl ld3 ?_
  refine v_iconst (v := nI 0) h 1 2 dL_setCold_1 rfl (by decide) ?_
  refine v_aload_n (i := 0) h 2 3 dL_setCold_2 rfl rfl ld0 ?_
  refine v_iload_n (i := 1) h 3 4 dL_setCold_3 rfl rfl ld1 ?_
  refine v_iload_n (i := 2) h 4 5 dL_setCold_4 rfl rfl ld2 ?_
  refine v_callVx h hZ hTb 5 17 dL_setCold_5 cb_X3_setCold cv_X3_setCold hD lk_L_26 (rok (by decide) (by decide)) ⟨by decide, by decide⟩ hM rfl rfl (Nat.le_of_ble_eq_true rfl) [⟨0, 10, 13, 13⟩] ⟨0, 10, 17, 15⟩ [⟨0, 10, 21, 17⟩] rfl (fun z h => by
    rw [List.mem_singleton.mp h]
    exact ⟨by decide, _, ck_13, Or.inl ⟨rfl, rfl⟩⟩) (by decide) (by decide) ck_15 (by decide +kernel) rfl (fun n' q9 hn => ?_)
  refine v_astore (i := 4) h 17 19 dL_setCold_17 rfl (by decide) (so4 rfl) ?_
  refine v_iconst (v := 2) h 19 20 dL_setCold_19 rfl (by decide) ?_
  exact v_ireth h 20 f dL_setCold_20 rfl (by decide) (by decide) rfl hn rfl
set_option maxRecDepth 100000 in
theorem t_setCold3 {E : EE} {w : Wo} {D O : Nat} {fs : List Value} {a1 a2 : Int32} (hD : w.2 D = some (.inr (3, fs))) (hM : Cthr E mX3_setCold w [.ref D, .int a1, .int a2] xS) : Ch E mL_setCold hL_setCold w [.ref D, .int a1, .int a2, .ref O] 3 w := by
  refine Ch.of RL rfl (by decide) [some (.ref D), some (.int a1), some (.int a2), some (.ref O), none] (Nat.le_of_ble_eq_true rfl) rfl (fun Γ h hZ hTb f => ?_)
  refine v_aload_n (i := 3) h 0 1 dL_setCold_0 rfl rfl ld3 ?_
  refine v_iconst (v := nI 0) h 1 2 dL_setCold_1 rfl (by decide) ?_
  refine v_aload_n (i := 0) h 2 3 dL_setCold_2 rfl rfl ld0 ?_
  refine v_iload_n (i := 1) h 3 4 dL_setCold_3 rfl rfl ld1 ?_
  refine v_iload_n (i := 2) h 4 5 dL_setCold_4 rfl rfl ld2 ?_
  refine v_callVx h hZ hTb 5 21 dL_setCold_5 cb_X3_setCold cv_X3_setCold hD lk_L_26 (rok (by decide) (by decide)) ⟨by decide, by decide⟩ hM rfl rfl (Nat.le_of_ble_eq_true rfl) [⟨0, 10, 13, 13⟩, ⟨0, 10, 17, 15⟩] ⟨0, 10, 21, 17⟩ [] rfl (fun z h => by
    rcases List.mem_cons.mp h with rfl | h
    · exact ⟨by decide, _, ck_13, Or.inr (Or.inl ⟨rfl, rfl⟩)⟩
    · rw [List.mem_singleton.mp h]
      exact ⟨by decide, _, ck_15, Or.inr (Or.inr ⟨rfl, rfl⟩)⟩) (by decide) (by decide) ck_17 (by decide +kernel) rfl (fun n' q9 hn => ?_)
  refine v_astore (i := 4) h 21 23 dL_setCold_21 rfl (by decide) (so4 rfl) ?_
  refine v_iconst (v := 3) h 23 24 dL_setCold_23 rfl (by decide) ?_
  exact v_ireth h 24 f dL_setCold_24 rfl (by decide) (by decide) rfl hn rfl
def hL_callOff : HH := [((0 : Nat), (9 : Nat), (12 : Nat), (13 : Nat))]
theorem cb_L_callOff : CBW mL_callOff hL_callOff 3 := ⟨tg 557 (by decide +kernel) (by decide +kernel), by decide +kernel, by decide +kernel, by decide +kernel⟩
set_option maxRecDepth 100000 in
theorem g_callOff {E : EE} {w w2 : Wo} {D O : Nat} {fs : List Value} {g : Nat → Int64} {a1 : Int32} {r : Int32} (hD : w.2 D = some (.inr (3, fs))) (hO : w2.2 O = some (.inl (gJ E, 1, .inr (.inl g)))) (hM : Cd E mX3_callOff w [.ref D, .int a1] (some (.int r)) w2) : Ch E mL_callOff hL_callOff w [.ref D, .int a1, .ref O] 0 (wup w2 O (.inl (gJ E, 1, .inr (.inl (vp_updL g 0 r.toInt64))))) := by
  refine Ch.of RL rfl (by decide) [some (.ref D), some (.int a1), some (.ref O), none] (Nat.le_of_ble_eq_true rfl) rfl (fun Γ h hZ hTb f => ?_)
  refine v_aload_n (i := 2) h 0 1 dL_callOff_0 rfl rfl ld2 ?_
  refine v_iconst (v := nI 0) h 1 2 dL_callOff_1 rfl (by decide) ?_
  refine v_aload_n (i := 0) h 2 3 dL_callOff_2 rfl rfl ld0 ?_
  refine v_iload_n (i := 1) h 3 4 dL_callOff_3 rfl rfl ld1 ?_
  refine v_callV1a h 4 7 dL_callOff_4 rfl cb_X3_callOff cv_X3_callOff hD lk_L_29 (rok (by decide) (by decide)) ⟨by decide, by decide⟩ hM rfl rfl (Nat.le_of_ble_eq_true rfl) ?_
  refine v_i2l h 7 8 dL_callOff_7 rfl rfl ?_
  refine v_last h 8 9 dL_callOff_8 rfl hO (vp_in_nI (n := 0) (by omega) (by decide)) ?_
  rw [nI_clamp (by omega)]
  refine v_goto h 9 15 dL_callOff_9 (by decide) ?_
  refine v_iconst (v := 0) h 15 16 dL_callOff_15 rfl (by decide) ?_
  exact v_ireth h 16 f dL_callOff_16 rfl (by decide) (by decide) rfl (Nat.le_refl _) rfl
set_option maxRecDepth 100000 in
theorem t_callOff1 {E : EE} {w : Wo} {D O : Nat} {fs : List Value} {a1 : Int32} (hD : w.2 D = some (.inr (3, fs))) (hM : Cthr E mX3_callOff w [.ref D, .int a1] xI) : Ch E mL_callOff hL_callOff w [.ref D, .int a1, .ref O] 1 w := by
  refine Ch.of RL rfl (by decide) [some (.ref D), some (.int a1), some (.ref O), none] (Nat.le_of_ble_eq_true rfl) rfl (fun Γ h hZ hTb f => ?_)
  refine v_aload_n (i := 2) h 0 1 dL_callOff_0 rfl rfl ld2 ?_
  refine v_iconst (v := nI 0) h 1 2 dL_callOff_1 rfl (by decide) ?_
  refine v_aload_n (i := 0) h 2 3 dL_callOff_2 rfl rfl ld0 ?_
  refine v_iload_n (i := 1) h 3 4 dL_callOff_3 rfl rfl ld1 ?_
  refine v_callVx h hZ hTb 4 12 dL_callOff_4 cb_X3_callOff cv_X3_callOff hD lk_L_29 (rok (by decide) (by decide)) ⟨by decide, by decide⟩ hM rfl rfl (Nat.le_of_ble_eq_true rfl) [] ⟨0, 9, 12, 13⟩ [] rfl (fun _ h => nomatch h) (by decide) (by decide) ck_13 (by decide +kernel) rfl (fun n' q9 hn => ?_)
  refine v_astore_n (i := 3) h 12 13 dL_callOff_12 rfl rfl (by decide) (so3 rfl) ?_
  refine v_iconst (v := 1) h 13 14 dL_callOff_13 rfl (by decide) ?_
  exact v_ireth h 14 f dL_callOff_14 rfl (by decide) (by decide) rfl hn rfl
def hL_pass : HH := [((0 : Nat), (9 : Nat), (12 : Nat), (15 : Nat)), ((0 : Nat), (9 : Nat), (15 : Nat), (17 : Nat))]
theorem cb_L_pass : CBW mL_pass hL_pass 3 := ⟨tg 567 (by decide +kernel) (by decide +kernel), by decide +kernel, by decide +kernel, by decide +kernel⟩
set_option maxRecDepth 100000 in
theorem g_pass {E : EE} {w w2 : Wo} {D O : Nat} {fs : List Value} {g : Nat → Int64} {a1 : Int32} {r : Int32} (hD : w.2 D = some (.inr (3, fs))) (hO : w2.2 O = some (.inl (gJ E, 1, .inr (.inl g)))) (hM : Cd E mX3_pass w [.ref D, .int a1] (some (.int r)) w2) : Ch E mL_pass hL_pass w [.ref D, .int a1, .ref O] 0 (wup w2 O (.inl (gJ E, 1, .inr (.inl (vp_updL g 0 r.toInt64))))) := by
  refine Ch.of RL rfl (by decide) [some (.ref D), some (.int a1), some (.ref O), none] (Nat.le_of_ble_eq_true rfl) rfl (fun Γ h hZ hTb f => ?_)
  refine v_aload_n (i := 2) h 0 1 dL_pass_0 rfl rfl ld2 ?_
  refine v_iconst (v := nI 0) h 1 2 dL_pass_1 rfl (by decide) ?_
  refine v_aload_n (i := 0) h 2 3 dL_pass_2 rfl rfl ld0 ?_
  refine v_iload_n (i := 1) h 3 4 dL_pass_3 rfl rfl ld1 ?_
  refine v_callV1a h 4 7 dL_pass_4 rfl cb_X3_pass cv_X3_pass hD lk_L_33 (rok (by decide) (by decide)) ⟨by decide, by decide⟩ hM rfl rfl (Nat.le_of_ble_eq_true rfl) ?_
  refine v_i2l h 7 8 dL_pass_7 rfl rfl ?_
  refine v_last h 8 9 dL_pass_8 rfl hO (vp_in_nI (n := 0) (by omega) (by decide)) ?_
  rw [nI_clamp (by omega)]
  refine v_goto h 9 18 dL_pass_9 (by decide) ?_
  refine v_iconst (v := 0) h 18 19 dL_pass_18 rfl (by decide) ?_
  exact v_ireth h 19 f dL_pass_19 rfl (by decide) (by decide) rfl (Nat.le_refl _) rfl
set_option maxRecDepth 100000 in
theorem t_pass1 {E : EE} {w : Wo} {D O : Nat} {fs : List Value} {a1 : Int32} (hD : w.2 D = some (.inr (3, fs))) (hM : Cthr E mX3_pass w [.ref D, .int a1] xA) : Ch E mL_pass hL_pass w [.ref D, .int a1, .ref O] 1 w := by
  refine Ch.of RL rfl (by decide) [some (.ref D), some (.int a1), some (.ref O), none] (Nat.le_of_ble_eq_true rfl) rfl (fun Γ h hZ hTb f => ?_)
  refine v_aload_n (i := 2) h 0 1 dL_pass_0 rfl rfl ld2 ?_
  refine v_iconst (v := nI 0) h 1 2 dL_pass_1 rfl (by decide) ?_
  refine v_aload_n (i := 0) h 2 3 dL_pass_2 rfl rfl ld0 ?_
  refine v_iload_n (i := 1) h 3 4 dL_pass_3 rfl rfl ld1 ?_
  refine v_callVx h hZ hTb 4 12 dL_pass_4 cb_X3_pass cv_X3_pass hD lk_L_33 (rok (by decide) (by decide)) ⟨by decide, by decide⟩ hM rfl rfl (Nat.le_of_ble_eq_true rfl) [] ⟨0, 9, 12, 15⟩ [⟨0, 9, 15, 17⟩] rfl (fun _ h => nomatch h) (by decide) (by decide) ck_15 (by decide +kernel) rfl (fun n' q9 hn => ?_)
  refine v_astore_n (i := 3) h 12 13 dL_pass_12 rfl rfl (by decide) (so3 rfl) ?_
  refine v_iconst (v := 1) h 13 14 dL_pass_13 rfl (by decide) ?_
  exact v_ireth h 14 f dL_pass_14 rfl (by decide) (by decide) rfl hn rfl
set_option maxRecDepth 100000 in
theorem t_pass2 {E : EE} {w : Wo} {D O : Nat} {fs : List Value} {a1 : Int32} (hD : w.2 D = some (.inr (3, fs))) (hM : Cthr E mX3_pass w [.ref D, .int a1] xS) : Ch E mL_pass hL_pass w [.ref D, .int a1, .ref O] 2 w := by
  refine Ch.of RL rfl (by decide) [some (.ref D), some (.int a1), some (.ref O), none] (Nat.le_of_ble_eq_true rfl) rfl (fun Γ h hZ hTb f => ?_)
  refine v_aload_n (i := 2) h 0 1 dL_pass_0 rfl rfl ld2 ?_
  refine v_iconst (v := nI 0) h 1 2 dL_pass_1 rfl (by decide) ?_
  refine v_aload_n (i := 0) h 2 3 dL_pass_2 rfl rfl ld0 ?_
  refine v_iload_n (i := 1) h 3 4 dL_pass_3 rfl rfl ld1 ?_
  refine v_callVx h hZ hTb 4 15 dL_pass_4 cb_X3_pass cv_X3_pass hD lk_L_33 (rok (by decide) (by decide)) ⟨by decide, by decide⟩ hM rfl rfl (Nat.le_of_ble_eq_true rfl) [⟨0, 9, 12, 15⟩] ⟨0, 9, 15, 17⟩ [] rfl (fun z h => by
    rw [List.mem_singleton.mp h]
    exact ⟨by decide, _, ck_15, Or.inr (Or.inr ⟨rfl, rfl⟩)⟩) (by decide) (by decide) ck_17 (by decide +kernel) rfl (fun n' q9 hn => ?_)
  refine v_astore_n (i := 3) h 15 16 dL_pass_15 rfl rfl (by decide) (so3 rfl) ?_
  refine v_iconst (v := 2) h 16 17 dL_pass_16 rfl (by decide) ?_
  exact v_ireth h 17 f dL_pass_17 rfl (by decide) (by decide) rfl hn rfl
def hL_chair : HH := [((0 : Nat), (10 : Nat), (13 : Nat), (13 : Nat)), ((0 : Nat), (10 : Nat), (17 : Nat), (15 : Nat))]
theorem cb_L_chair : CBW mL_chair hL_chair 4 := ⟨tg 576 (by decide +kernel) (by decide +kernel), by decide +kernel, by decide +kernel, by decide +kernel⟩
set_option maxRecDepth 100000 in
theorem g_chair {E : EE} {w w2 : Wo} {D O : Nat} {fs : List Value} {g : Nat → Int64} {a1 a2 : Int32} {r : Int32} (hD : w.2 D = some (.inr (3, fs))) (hO : w2.2 O = some (.inl (gJ E, 1, .inr (.inl g)))) (hM : Cd E mX3_chair w [.ref D, .int a1, .int a2] (some (.int r)) w2) : Ch E mL_chair hL_chair w [.ref D, .int a1, .int a2, .ref O] 0 (wup w2 O (.inl (gJ E, 1, .inr (.inl (vp_updL g 0 r.toInt64))))) := by
  refine Ch.of RL rfl (by decide) [some (.ref D), some (.int a1), some (.int a2), some (.ref O), none] (Nat.le_of_ble_eq_true rfl) rfl (fun Γ h hZ hTb f => ?_)
  refine v_aload_n (i := 3) h 0 1 dL_chair_0 rfl rfl ld3 ?_
  refine v_iconst (v := nI 0) h 1 2 dL_chair_1 rfl (by decide) ?_
  refine v_aload_n (i := 0) h 2 3 dL_chair_2 rfl rfl ld0 ?_
  refine v_iload_n (i := 1) h 3 4 dL_chair_3 rfl rfl ld1 ?_
  refine v_iload_n (i := 2) h 4 5 dL_chair_4 rfl rfl ld2 ?_
  refine v_callV1a h 5 8 dL_chair_5 rfl cb_X3_chair cv_X3_chair hD lk_L_36 (rok (by decide) (by decide)) ⟨by decide, by decide⟩ hM rfl rfl (Nat.le_of_ble_eq_true rfl) ?_
  refine v_i2l h 8 9 dL_chair_8 rfl rfl ?_
  refine v_last h 9 10 dL_chair_9 rfl hO (vp_in_nI (n := 0) (by omega) (by decide)) ?_
  rw [nI_clamp (by omega)]
  refine v_goto h 10 21 dL_chair_10 (by decide) ?_
  refine v_iconst (v := 0) h 21 22 dL_chair_21 rfl (by decide) ?_
  exact v_ireth h 22 f dL_chair_22 rfl (by decide) (by decide) rfl (Nat.le_refl _) rfl
set_option maxRecDepth 100000 in
theorem t_chair1 {E : EE} {w : Wo} {D O : Nat} {fs : List Value} {a1 a2 : Int32} (hD : w.2 D = some (.inr (3, fs))) (hM : Cthr E mX3_chair w [.ref D, .int a1, .int a2] xI) : Ch E mL_chair hL_chair w [.ref D, .int a1, .int a2, .ref O] 1 w := by
  refine Ch.of RL rfl (by decide) [some (.ref D), some (.int a1), some (.int a2), some (.ref O), none] (Nat.le_of_ble_eq_true rfl) rfl (fun Γ h hZ hTb f => ?_)
  refine v_aload_n (i := 3) h 0 1 dL_chair_0 rfl rfl ld3 ?_
  refine v_iconst (v := nI 0) h 1 2 dL_chair_1 rfl (by decide) ?_
  refine v_aload_n (i := 0) h 2 3 dL_chair_2 rfl rfl ld0 ?_
  refine v_iload_n (i := 1) h 3 4 dL_chair_3 rfl rfl ld1 ?_
  refine v_iload_n (i := 2) h 4 5 dL_chair_4 rfl rfl ld2 ?_
  refine v_callVx h hZ hTb 5 13 dL_chair_5 cb_X3_chair cv_X3_chair hD lk_L_36 (rok (by decide) (by decide)) ⟨by decide, by decide⟩ hM rfl rfl (Nat.le_of_ble_eq_true rfl) [] ⟨0, 10, 13, 13⟩ [⟨0, 10, 17, 15⟩] rfl (fun _ h => nomatch h) (by decide) (by decide) ck_13 (by decide +kernel) rfl (fun n' q9 hn => ?_)
  refine v_astore (i := 4) h 13 15 dL_chair_13 rfl (by decide) (so4 rfl) ?_
  refine v_iconst (v := 1) h 15 16 dL_chair_15 rfl (by decide) ?_
  exact v_ireth h 16 f dL_chair_16 rfl (by decide) (by decide) rfl hn rfl
set_option maxRecDepth 100000 in
theorem t_chair2 {E : EE} {w : Wo} {D O : Nat} {fs : List Value} {a1 a2 : Int32} (hD : w.2 D = some (.inr (3, fs))) (hM : Cthr E mX3_chair w [.ref D, .int a1, .int a2] xA) : Ch E mL_chair hL_chair w [.ref D, .int a1, .int a2, .ref O] 2 w := by
  refine Ch.of RL rfl (by decide) [some (.ref D), some (.int a1), some (.int a2), some (.ref O), none] (Nat.le_of_ble_eq_true rfl) rfl (fun Γ h hZ hTb f => ?_)
  refine v_aload_n (i := 3) h 0 1 dL_chair_0 rfl rfl ld3 ?_
  refine v_iconst (v := nI 0) h 1 2 dL_chair_1 rfl (by decide) ?_
  refine v_aload_n (i := 0) h 2 3 dL_chair_2 rfl rfl ld0 ?_
  refine v_iload_n (i := 1) h 3 4 dL_chair_3 rfl rfl ld1 ?_
  refine v_iload_n (i := 2) h 4 5 dL_chair_4 rfl rfl ld2 ?_
  refine v_callVx h hZ hTb 5 17 dL_chair_5 cb_X3_chair cv_X3_chair hD lk_L_36 (rok (by decide) (by decide)) ⟨by decide, by decide⟩ hM rfl rfl (Nat.le_of_ble_eq_true rfl) [⟨0, 10, 13, 13⟩] ⟨0, 10, 17, 15⟩ [] rfl (fun z h => by
    rw [List.mem_singleton.mp h]
    exact ⟨by decide, _, ck_13, Or.inl ⟨rfl, rfl⟩⟩) (by decide) (by decide) ck_15 (by decide +kernel) rfl (fun n' q9 hn => ?_)
  refine v_astore (i := 4) h 17 19 dL_chair_17 rfl (by decide) (so4 rfl) ?_
  refine v_iconst (v := 2) h 19 20 dL_chair_19 rfl (by decide) ?_
  exact v_ireth h 20 f dL_chair_20 rfl (by decide) (by decide) rfl hn rfl
def hL_team : HH := [((0 : Nat), (10 : Nat), (13 : Nat), (13 : Nat)), ((0 : Nat), (10 : Nat), (17 : Nat), (15 : Nat))]
theorem cb_L_team : CBW mL_team hL_team 4 := ⟨tg 584 (by decide +kernel) (by decide +kernel), by decide +kernel, by decide +kernel, by decide +kernel⟩
set_option maxRecDepth 100000 in
theorem g_team {E : EE} {w w2 : Wo} {D O : Nat} {fs : List Value} {g : Nat → Int64} {a1 a2 : Int32} {r : Int32} (hD : w.2 D = some (.inr (3, fs))) (hO : w2.2 O = some (.inl (gJ E, 1, .inr (.inl g)))) (hM : Cd E mX3_team w [.ref D, .int a1, .int a2] (some (.int r)) w2) : Ch E mL_team hL_team w [.ref D, .int a1, .int a2, .ref O] 0 (wup w2 O (.inl (gJ E, 1, .inr (.inl (vp_updL g 0 r.toInt64))))) := by
  refine Ch.of RL rfl (by decide) [some (.ref D), some (.int a1), some (.int a2), some (.ref O), none] (Nat.le_of_ble_eq_true rfl) rfl (fun Γ h hZ hTb f => ?_)
  refine v_aload_n (i := 3) h 0 1 dL_team_0 rfl rfl ld3 ?_
  refine v_iconst (v := nI 0) h 1 2 dL_team_1 rfl (by decide) ?_
  refine v_aload_n (i := 0) h 2 3 dL_team_2 rfl rfl ld0 ?_
  refine v_iload_n (i := 1) h 3 4 dL_team_3 rfl rfl ld1 ?_
  refine v_iload_n (i := 2) h 4 5 dL_team_4 rfl rfl ld2 ?_
  refine v_callV1a h 5 8 dL_team_5 rfl cb_X3_team cv_X3_team hD lk_L_39 (rok (by decide) (by decide)) ⟨by decide, by decide⟩ hM rfl rfl (Nat.le_of_ble_eq_true rfl) ?_
  refine v_i2l h 8 9 dL_team_8 rfl rfl ?_
  refine v_last h 9 10 dL_team_9 rfl hO (vp_in_nI (n := 0) (by omega) (by decide)) ?_
  rw [nI_clamp (by omega)]
  refine v_goto h 10 21 dL_team_10 (by decide) ?_
  refine v_iconst (v := 0) h 21 22 dL_team_21 rfl (by decide) ?_
  exact v_ireth h 22 f dL_team_22 rfl (by decide) (by decide) rfl (Nat.le_refl _) rfl
set_option maxRecDepth 100000 in
theorem t_team1 {E : EE} {w : Wo} {D O : Nat} {fs : List Value} {a1 a2 : Int32} (hD : w.2 D = some (.inr (3, fs))) (hM : Cthr E mX3_team w [.ref D, .int a1, .int a2] xI) : Ch E mL_team hL_team w [.ref D, .int a1, .int a2, .ref O] 1 w := by
  refine Ch.of RL rfl (by decide) [some (.ref D), some (.int a1), some (.int a2), some (.ref O), none] (Nat.le_of_ble_eq_true rfl) rfl (fun Γ h hZ hTb f => ?_)
  refine v_aload_n (i := 3) h 0 1 dL_team_0 rfl rfl ld3 ?_
  refine v_iconst (v := nI 0) h 1 2 dL_team_1 rfl (by decide) ?_
  refine v_aload_n (i := 0) h 2 3 dL_team_2 rfl rfl ld0 ?_
  refine v_iload_n (i := 1) h 3 4 dL_team_3 rfl rfl ld1 ?_
  refine v_iload_n (i := 2) h 4 5 dL_team_4 rfl rfl ld2 ?_
  refine v_callVx h hZ hTb 5 13 dL_team_5 cb_X3_team cv_X3_team hD lk_L_39 (rok (by decide) (by decide)) ⟨by decide, by decide⟩ hM rfl rfl (Nat.le_of_ble_eq_true rfl) [] ⟨0, 10, 13, 13⟩ [⟨0, 10, 17, 15⟩] rfl (fun _ h => nomatch h) (by decide) (by decide) ck_13 (by decide +kernel) rfl (fun n' q9 hn => ?_)
  refine v_astore (i := 4) h 13 15 dL_team_13 rfl (by decide) (so4 rfl) ?_
  refine v_iconst (v := 1) h 15 16 dL_team_15 rfl (by decide) ?_
  exact v_ireth h 16 f dL_team_16 rfl (by decide) (by decide) rfl hn rfl
set_option maxRecDepth 100000 in
theorem t_team2 {E : EE} {w : Wo} {D O : Nat} {fs : List Value} {a1 a2 : Int32} (hD : w.2 D = some (.inr (3, fs))) (hM : Cthr E mX3_team w [.ref D, .int a1, .int a2] xA) : Ch E mL_team hL_team w [.ref D, .int a1, .int a2, .ref O] 2 w := by
  refine Ch.of RL rfl (by decide) [some (.ref D), some (.int a1), some (.int a2), some (.ref O), none] (Nat.le_of_ble_eq_true rfl) rfl (fun Γ h hZ hTb f => ?_)
  refine v_aload_n (i := 3) h 0 1 dL_team_0 rfl rfl ld3 ?_
  refine v_iconst (v := nI 0) h 1 2 dL_team_1 rfl (by decide) ?_
  refine v_aload_n (i := 0) h 2 3 dL_team_2 rfl rfl ld0 ?_
  refine v_iload_n (i := 1) h 3 4 dL_team_3 rfl rfl ld1 ?_
  refine v_iload_n (i := 2) h 4 5 dL_team_4 rfl rfl ld2 ?_
  refine v_callVx h hZ hTb 5 17 dL_team_5 cb_X3_team cv_X3_team hD lk_L_39 (rok (by decide) (by decide)) ⟨by decide, by decide⟩ hM rfl rfl (Nat.le_of_ble_eq_true rfl) [⟨0, 10, 13, 13⟩] ⟨0, 10, 17, 15⟩ [] rfl (fun z h => by
    rw [List.mem_singleton.mp h]
    exact ⟨by decide, _, ck_13, Or.inl ⟨rfl, rfl⟩⟩) (by decide) (by decide) ck_15 (by decide +kernel) rfl (fun n' q9 hn => ?_)
  refine v_astore (i := 4) h 17 19 dL_team_17 rfl (by decide) (so4 rfl) ?_
  refine v_iconst (v := 2) h 19 20 dL_team_19 rfl (by decide) ?_
  exact v_ireth h 20 f dL_team_20 rfl (by decide) (by decide) rfl hn rfl
def hL_value : HH := [((0 : Nat), (9 : Nat), (12 : Nat), (15 : Nat))]
theorem cb_L_value : CBW mL_value hL_value 3 := ⟨tg 591 (by decide +kernel) (by decide +kernel), by decide +kernel, by decide +kernel, by decide +kernel⟩
set_option maxRecDepth 100000 in
theorem g_value {E : EE} {w w2 : Wo} {D O : Nat} {fs : List Value} {g : Nat → Int64} {a1 : Int32} {r : Int32} (hD : w.2 D = some (.inr (3, fs))) (hO : w2.2 O = some (.inl (gJ E, 1, .inr (.inl g)))) (hM : Cd E mX3_value w [.ref D, .int a1] (some (.int r)) w2) : Ch E mL_value hL_value w [.ref D, .int a1, .ref O] 0 (wup w2 O (.inl (gJ E, 1, .inr (.inl (vp_updL g 0 r.toInt64))))) := by
  refine Ch.of RL rfl (by decide) [some (.ref D), some (.int a1), some (.ref O), none] (Nat.le_of_ble_eq_true rfl) rfl (fun Γ h hZ hTb f => ?_)
  refine v_aload_n (i := 2) h 0 1 dL_value_0 rfl rfl ld2 ?_
  refine v_iconst (v := nI 0) h 1 2 dL_value_1 rfl (by decide) ?_
  refine v_aload_n (i := 0) h 2 3 dL_value_2 rfl rfl ld0 ?_
  refine v_iload_n (i := 1) h 3 4 dL_value_3 rfl rfl ld1 ?_
  refine v_callV1a h 4 7 dL_value_4 rfl cb_X3_value cv_X3_value hD lk_L_42 (rok (by decide) (by decide)) ⟨by decide, by decide⟩ hM rfl rfl (Nat.le_of_ble_eq_true rfl) ?_
  refine v_i2l h 7 8 dL_value_7 rfl rfl ?_
  refine v_last h 8 9 dL_value_8 rfl hO (vp_in_nI (n := 0) (by omega) (by decide)) ?_
  rw [nI_clamp (by omega)]
  refine v_goto h 9 15 dL_value_9 (by decide) ?_
  refine v_iconst (v := 0) h 15 16 dL_value_15 rfl (by decide) ?_
  exact v_ireth h 16 f dL_value_16 rfl (by decide) (by decide) rfl (Nat.le_refl _) rfl
set_option maxRecDepth 100000 in
theorem t_value1 {E : EE} {w : Wo} {D O : Nat} {fs : List Value} {a1 : Int32} (hD : w.2 D = some (.inr (3, fs))) (hM : Cthr E mX3_value w [.ref D, .int a1] xA) : Ch E mL_value hL_value w [.ref D, .int a1, .ref O] 1 w := by
  refine Ch.of RL rfl (by decide) [some (.ref D), some (.int a1), some (.ref O), none] (Nat.le_of_ble_eq_true rfl) rfl (fun Γ h hZ hTb f => ?_)
  refine v_aload_n (i := 2) h 0 1 dL_value_0 rfl rfl ld2 ?_
  refine v_iconst (v := nI 0) h 1 2 dL_value_1 rfl (by decide) ?_
  refine v_aload_n (i := 0) h 2 3 dL_value_2 rfl rfl ld0 ?_
  refine v_iload_n (i := 1) h 3 4 dL_value_3 rfl rfl ld1 ?_
  refine v_callVx h hZ hTb 4 12 dL_value_4 cb_X3_value cv_X3_value hD lk_L_42 (rok (by decide) (by decide)) ⟨by decide, by decide⟩ hM rfl rfl (Nat.le_of_ble_eq_true rfl) [] ⟨0, 9, 12, 15⟩ [] rfl (fun _ h => nomatch h) (by decide) (by decide) ck_15 (by decide +kernel) rfl (fun n' q9 hn => ?_)
  refine v_astore_n (i := 3) h 12 13 dL_value_12 rfl rfl (by decide) (so3 rfl) ?_
  refine v_iconst (v := 1) h 13 14 dL_value_13 rfl (by decide) ?_
  exact v_ireth h 14 f dL_value_14 rfl (by decide) (by decide) rfl hn rfl
def hL_way : HH := [((0 : Nat), (10 : Nat), (13 : Nat), (13 : Nat))]
theorem cb_L_way : CBW mL_way hL_way 4 := ⟨tg 598 (by decide +kernel) (by decide +kernel), by decide +kernel, by decide +kernel, by decide +kernel⟩
set_option maxRecDepth 100000 in
theorem g_way {E : EE} {w w2 : Wo} {D O : Nat} {fs : List Value} {g : Nat → Int64} {a1 a2 : Int32} {r : Int32} (hD : w.2 D = some (.inr (3, fs))) (hO : w2.2 O = some (.inl (gJ E, 1, .inr (.inl g)))) (hM : Cd E mX3_way w [.ref D, .int a1, .int a2] (some (.int r)) w2) : Ch E mL_way hL_way w [.ref D, .int a1, .int a2, .ref O] 0 (wup w2 O (.inl (gJ E, 1, .inr (.inl (vp_updL g 0 r.toInt64))))) := by
  refine Ch.of RL rfl (by decide) [some (.ref D), some (.int a1), some (.int a2), some (.ref O), none] (Nat.le_of_ble_eq_true rfl) rfl (fun Γ h hZ hTb f => ?_)
  refine v_aload_n (i := 3) h 0 1 dL_way_0 rfl rfl ld3 ?_
  refine v_iconst (v := nI 0) h 1 2 dL_way_1 rfl (by decide) ?_
  refine v_aload_n (i := 0) h 2 3 dL_way_2 rfl rfl ld0 ?_
  refine v_iload_n (i := 1) h 3 4 dL_way_3 rfl rfl ld1 ?_
  refine v_iload_n (i := 2) h 4 5 dL_way_4 rfl rfl ld2 ?_
  refine v_callV1a h 5 8 dL_way_5 rfl cb_X3_way cv_X3_way hD lk_L_45 (rok (by decide) (by decide)) ⟨by decide, by decide⟩ hM rfl rfl (Nat.le_of_ble_eq_true rfl) ?_
  refine v_i2l h 8 9 dL_way_8 rfl rfl ?_
  refine v_last h 9 10 dL_way_9 rfl hO (vp_in_nI (n := 0) (by omega) (by decide)) ?_
  rw [nI_clamp (by omega)]
  refine v_goto h 10 17 dL_way_10 (by decide) ?_
  refine v_iconst (v := 0) h 17 18 dL_way_17 rfl (by decide) ?_
  exact v_ireth h 18 f dL_way_18 rfl (by decide) (by decide) rfl (Nat.le_refl _) rfl
set_option maxRecDepth 100000 in
theorem t_way1 {E : EE} {w : Wo} {D O : Nat} {fs : List Value} {a1 a2 : Int32} (hD : w.2 D = some (.inr (3, fs))) (hM : Cthr E mX3_way w [.ref D, .int a1, .int a2] xI) : Ch E mL_way hL_way w [.ref D, .int a1, .int a2, .ref O] 1 w := by
  refine Ch.of RL rfl (by decide) [some (.ref D), some (.int a1), some (.int a2), some (.ref O), none] (Nat.le_of_ble_eq_true rfl) rfl (fun Γ h hZ hTb f => ?_)
  refine v_aload_n (i := 3) h 0 1 dL_way_0 rfl rfl ld3 ?_
  refine v_iconst (v := nI 0) h 1 2 dL_way_1 rfl (by decide) ?_
  refine v_aload_n (i := 0) h 2 3 dL_way_2 rfl rfl ld0 ?_
  refine v_iload_n (i := 1) h 3 4 dL_way_3 rfl rfl ld1 ?_
  refine v_iload_n (i := 2) h 4 5 dL_way_4 rfl rfl ld2 ?_
  refine v_callVx h hZ hTb 5 13 dL_way_5 cb_X3_way cv_X3_way hD lk_L_45 (rok (by decide) (by decide)) ⟨by decide, by decide⟩ hM rfl rfl (Nat.le_of_ble_eq_true rfl) [] ⟨0, 10, 13, 13⟩ [] rfl (fun _ h => nomatch h) (by decide) (by decide) ck_13 (by decide +kernel) rfl (fun n' q9 hn => ?_)
  refine v_astore (i := 4) h 13 15 dL_way_13 rfl (by decide) (so4 rfl) ?_
  refine v_iconst (v := 1) h 15 16 dL_way_15 rfl (by decide) ?_
  exact v_ireth h 16 f dL_way_16 rfl (by decide) (by decide) rfl hn rfl
def hL_work : HH := [((0 : Nat), (10 : Nat), (13 : Nat), (13 : Nat))]
theorem cb_L_work : CBW mL_work hL_work 4 := ⟨tg 606 (by decide +kernel) (by decide +kernel), by decide +kernel, by decide +kernel, by decide +kernel⟩
set_option maxRecDepth 100000 in
theorem g_work {E : EE} {w w2 : Wo} {D O : Nat} {fs : List Value} {g : Nat → Int64} {a1 a2 : Int32} {r : Int32} (hD : w.2 D = some (.inr (3, fs))) (hO : w2.2 O = some (.inl (gJ E, 1, .inr (.inl g)))) (hM : Cd E mX3_work w [.ref D, .int a1, .int a2] (some (.int r)) w2) : Ch E mL_work hL_work w [.ref D, .int a1, .int a2, .ref O] 0 (wup w2 O (.inl (gJ E, 1, .inr (.inl (vp_updL g 0 r.toInt64))))) := by
  refine Ch.of RL rfl (by decide) [some (.ref D), some (.int a1), some (.int a2), some (.ref O), none] (Nat.le_of_ble_eq_true rfl) rfl (fun Γ h hZ hTb f => ?_)
  refine v_aload_n (i := 3) h 0 1 dL_work_0 rfl rfl ld3 ?_
  refine v_iconst (v := nI 0) h 1 2 dL_work_1 rfl (by decide) ?_
  refine v_aload_n (i := 0) h 2 3 dL_work_2 rfl rfl ld0 ?_
  refine v_iload_n (i := 1) h 3 4 dL_work_3 rfl rfl ld1 ?_
  refine v_iload_n (i := 2) h 4 5 dL_work_4 rfl rfl ld2 ?_
  refine v_callV1a h 5 8 dL_work_5 rfl cb_X3_work cv_X3_work hD lk_L_48 (rok (by decide) (by decide)) ⟨by decide, by decide⟩ hM rfl rfl (Nat.le_of_ble_eq_true rfl) ?_
  refine v_i2l h 8 9 dL_work_8 rfl rfl ?_
  refine v_last h 9 10 dL_work_9 rfl hO (vp_in_nI (n := 0) (by omega) (by decide)) ?_
  rw [nI_clamp (by omega)]
  refine v_goto h 10 17 dL_work_10 (by decide) ?_
  refine v_iconst (v := 0) h 17 18 dL_work_17 rfl (by decide) ?_
  exact v_ireth h 18 f dL_work_18 rfl (by decide) (by decide) rfl (Nat.le_refl _) rfl
set_option maxRecDepth 100000 in
theorem t_work1 {E : EE} {w : Wo} {D O : Nat} {fs : List Value} {a1 a2 : Int32} (hD : w.2 D = some (.inr (3, fs))) (hM : Cthr E mX3_work w [.ref D, .int a1, .int a2] xI) : Ch E mL_work hL_work w [.ref D, .int a1, .int a2, .ref O] 1 w := by
  refine Ch.of RL rfl (by decide) [some (.ref D), some (.int a1), some (.int a2), some (.ref O), none] (Nat.le_of_ble_eq_true rfl) rfl (fun Γ h hZ hTb f => ?_)
  refine v_aload_n (i := 3) h 0 1 dL_work_0 rfl rfl ld3 ?_
  refine v_iconst (v := nI 0) h 1 2 dL_work_1 rfl (by decide) ?_
  refine v_aload_n (i := 0) h 2 3 dL_work_2 rfl rfl ld0 ?_
  refine v_iload_n (i := 1) h 3 4 dL_work_3 rfl rfl ld1 ?_
  refine v_iload_n (i := 2) h 4 5 dL_work_4 rfl rfl ld2 ?_
  refine v_callVx h hZ hTb 5 13 dL_work_5 cb_X3_work cv_X3_work hD lk_L_48 (rok (by decide) (by decide)) ⟨by decide, by decide⟩ hM rfl rfl (Nat.le_of_ble_eq_true rfl) [] ⟨0, 10, 13, 13⟩ [] rfl (fun _ h => nomatch h) (by decide) (by decide) ck_13 (by decide +kernel) rfl (fun n' q9 hn => ?_)
  refine v_astore (i := 4) h 13 15 dL_work_13 rfl (by decide) (so4 rfl) ?_
  refine v_iconst (v := 1) h 15 16 dL_work_15 rfl (by decide) ?_
  exact v_ireth h 16 f dL_work_16 rfl (by decide) (by decide) rfl hn rfl
def hL_journal : HH := [((0 : Nat), (9 : Nat), (12 : Nat), (13 : Nat))]
theorem cb_L_journal : CBW mL_journal hL_journal 3 := ⟨tg 615 (by decide +kernel) (by decide +kernel), by decide +kernel, by decide +kernel, by decide +kernel⟩
set_option maxRecDepth 100000 in
theorem g_journal {E : EE} {w w2 : Wo} {D O : Nat} {fs : List Value} {g : Nat → Int64} {a1 : Int32} {r : Int32} (hD : w.2 D = some (.inr (3, fs))) (hO : w2.2 O = some (.inl (gJ E, 1, .inr (.inl g)))) (hM : Cd E mX3_journal w [.ref D, .int a1] (some (.int r)) w2) : Ch E mL_journal hL_journal w [.ref D, .int a1, .ref O] 0 (wup w2 O (.inl (gJ E, 1, .inr (.inl (vp_updL g 0 r.toInt64))))) := by
  refine Ch.of RL rfl (by decide) [some (.ref D), some (.int a1), some (.ref O), none] (Nat.le_of_ble_eq_true rfl) rfl (fun Γ h hZ hTb f => ?_)
  refine v_aload_n (i := 2) h 0 1 dL_journal_0 rfl rfl ld2 ?_
  refine v_iconst (v := nI 0) h 1 2 dL_journal_1 rfl (by decide) ?_
  refine v_aload_n (i := 0) h 2 3 dL_journal_2 rfl rfl ld0 ?_
  refine v_iload_n (i := 1) h 3 4 dL_journal_3 rfl rfl ld1 ?_
  refine v_callV1a h 4 7 dL_journal_4 rfl cb_X3_journal cv_X3_journal hD lk_L_51 (rok (by decide) (by decide)) ⟨by decide, by decide⟩ hM rfl rfl (Nat.le_of_ble_eq_true rfl) ?_
  refine v_i2l h 7 8 dL_journal_7 rfl rfl ?_
  refine v_last h 8 9 dL_journal_8 rfl hO (vp_in_nI (n := 0) (by omega) (by decide)) ?_
  rw [nI_clamp (by omega)]
  refine v_goto h 9 15 dL_journal_9 (by decide) ?_
  refine v_iconst (v := 0) h 15 16 dL_journal_15 rfl (by decide) ?_
  exact v_ireth h 16 f dL_journal_16 rfl (by decide) (by decide) rfl (Nat.le_refl _) rfl
set_option maxRecDepth 100000 in
theorem t_journal1 {E : EE} {w : Wo} {D O : Nat} {fs : List Value} {a1 : Int32} (hD : w.2 D = some (.inr (3, fs))) (hM : Cthr E mX3_journal w [.ref D, .int a1] xI) : Ch E mL_journal hL_journal w [.ref D, .int a1, .ref O] 1 w := by
  refine Ch.of RL rfl (by decide) [some (.ref D), some (.int a1), some (.ref O), none] (Nat.le_of_ble_eq_true rfl) rfl (fun Γ h hZ hTb f => ?_)
  refine v_aload_n (i := 2) h 0 1 dL_journal_0 rfl rfl ld2 ?_
  refine v_iconst (v := nI 0) h 1 2 dL_journal_1 rfl (by decide) ?_
  refine v_aload_n (i := 0) h 2 3 dL_journal_2 rfl rfl ld0 ?_
  refine v_iload_n (i := 1) h 3 4 dL_journal_3 rfl rfl ld1 ?_
  refine v_callVx h hZ hTb 4 12 dL_journal_4 cb_X3_journal cv_X3_journal hD lk_L_51 (rok (by decide) (by decide)) ⟨by decide, by decide⟩ hM rfl rfl (Nat.le_of_ble_eq_true rfl) [] ⟨0, 9, 12, 13⟩ [] rfl (fun _ h => nomatch h) (by decide) (by decide) ck_13 (by decide +kernel) rfl (fun n' q9 hn => ?_)
  refine v_astore_n (i := 3) h 12 13 dL_journal_12 rfl rfl (by decide) (so3 rfl) ?_
  refine v_iconst (v := 1) h 13 14 dL_journal_13 rfl (by decide) ?_
  exact v_ireth h 14 f dL_journal_14 rfl (by decide) (by decide) rfl hn rfl
def hL_minuteOf : HH := [((0 : Nat), (9 : Nat), (12 : Nat), (13 : Nat))]
theorem cb_L_minuteOf : CBW mL_minuteOf hL_minuteOf 3 := ⟨tg 623 (by decide +kernel) (by decide +kernel), by decide +kernel, by decide +kernel, by decide +kernel⟩
set_option maxRecDepth 100000 in
theorem g_minuteOf {E : EE} {w w2 : Wo} {D O : Nat} {fs : List Value} {g : Nat → Int64} {a1 : Int32} {r : Int32} (hD : w.2 D = some (.inr (3, fs))) (hO : w2.2 O = some (.inl (gJ E, 1, .inr (.inl g)))) (hM : Cd E mX3_minuteOf w [.ref D, .int a1] (some (.int r)) w2) : Ch E mL_minuteOf hL_minuteOf w [.ref D, .int a1, .ref O] 0 (wup w2 O (.inl (gJ E, 1, .inr (.inl (vp_updL g 0 r.toInt64))))) := by
  refine Ch.of RL rfl (by decide) [some (.ref D), some (.int a1), some (.ref O), none] (Nat.le_of_ble_eq_true rfl) rfl (fun Γ h hZ hTb f => ?_)
  refine v_aload_n (i := 2) h 0 1 dL_minuteOf_0 rfl rfl ld2 ?_
  refine v_iconst (v := nI 0) h 1 2 dL_minuteOf_1 rfl (by decide) ?_
  refine v_aload_n (i := 0) h 2 3 dL_minuteOf_2 rfl rfl ld0 ?_
  refine v_iload_n (i := 1) h 3 4 dL_minuteOf_3 rfl rfl ld1 ?_
  refine v_callV1a h 4 7 dL_minuteOf_4 rfl cb_X3_minuteOf cv_X3_minuteOf hD lk_L_54 (rok (by decide) (by decide)) ⟨by decide, by decide⟩ hM rfl rfl (Nat.le_of_ble_eq_true rfl) ?_
  refine v_i2l h 7 8 dL_minuteOf_7 rfl rfl ?_
  refine v_last h 8 9 dL_minuteOf_8 rfl hO (vp_in_nI (n := 0) (by omega) (by decide)) ?_
  rw [nI_clamp (by omega)]
  refine v_goto h 9 15 dL_minuteOf_9 (by decide) ?_
  refine v_iconst (v := 0) h 15 16 dL_minuteOf_15 rfl (by decide) ?_
  exact v_ireth h 16 f dL_minuteOf_16 rfl (by decide) (by decide) rfl (Nat.le_refl _) rfl
set_option maxRecDepth 100000 in
theorem t_minuteOf1 {E : EE} {w : Wo} {D O : Nat} {fs : List Value} {a1 : Int32} (hD : w.2 D = some (.inr (3, fs))) (hM : Cthr E mX3_minuteOf w [.ref D, .int a1] xI) : Ch E mL_minuteOf hL_minuteOf w [.ref D, .int a1, .ref O] 1 w := by
  refine Ch.of RL rfl (by decide) [some (.ref D), some (.int a1), some (.ref O), none] (Nat.le_of_ble_eq_true rfl) rfl (fun Γ h hZ hTb f => ?_)
  refine v_aload_n (i := 2) h 0 1 dL_minuteOf_0 rfl rfl ld2 ?_
  refine v_iconst (v := nI 0) h 1 2 dL_minuteOf_1 rfl (by decide) ?_
  refine v_aload_n (i := 0) h 2 3 dL_minuteOf_2 rfl rfl ld0 ?_
  refine v_iload_n (i := 1) h 3 4 dL_minuteOf_3 rfl rfl ld1 ?_
  refine v_callVx h hZ hTb 4 12 dL_minuteOf_4 cb_X3_minuteOf cv_X3_minuteOf hD lk_L_54 (rok (by decide) (by decide)) ⟨by decide, by decide⟩ hM rfl rfl (Nat.le_of_ble_eq_true rfl) [] ⟨0, 9, 12, 13⟩ [] rfl (fun _ h => nomatch h) (by decide) (by decide) ck_13 (by decide +kernel) rfl (fun n' q9 hn => ?_)
  refine v_astore_n (i := 3) h 12 13 dL_minuteOf_12 rfl rfl (by decide) (so3 rfl) ?_
  refine v_iconst (v := 1) h 13 14 dL_minuteOf_13 rfl (by decide) ?_
  exact v_ireth h 14 f dL_minuteOf_14 rfl (by decide) (by decide) rfl hn rfl
def hL_chosen : HH := [((0 : Nat), (9 : Nat), (12 : Nat), (13 : Nat))]
theorem cb_L_chosen : CBW mL_chosen hL_chosen 3 := ⟨tg 630 (by decide +kernel) (by decide +kernel), by decide +kernel, by decide +kernel, by decide +kernel⟩
set_option maxRecDepth 100000 in
theorem g_chosen {E : EE} {w w2 : Wo} {D O : Nat} {fs : List Value} {g : Nat → Int64} {a1 : Int32} {r : Int32} (hD : w.2 D = some (.inr (3, fs))) (hO : w2.2 O = some (.inl (gJ E, 1, .inr (.inl g)))) (hM : Cd E mX3_chosen w [.ref D, .int a1] (some (.int r)) w2) : Ch E mL_chosen hL_chosen w [.ref D, .int a1, .ref O] 0 (wup w2 O (.inl (gJ E, 1, .inr (.inl (vp_updL g 0 r.toInt64))))) := by
  refine Ch.of RL rfl (by decide) [some (.ref D), some (.int a1), some (.ref O), none] (Nat.le_of_ble_eq_true rfl) rfl (fun Γ h hZ hTb f => ?_)
  refine v_aload_n (i := 2) h 0 1 dL_chosen_0 rfl rfl ld2 ?_
  refine v_iconst (v := nI 0) h 1 2 dL_chosen_1 rfl (by decide) ?_
  refine v_aload_n (i := 0) h 2 3 dL_chosen_2 rfl rfl ld0 ?_
  refine v_iload_n (i := 1) h 3 4 dL_chosen_3 rfl rfl ld1 ?_
  refine v_callV1a h 4 7 dL_chosen_4 rfl cb_X3_chosen cv_X3_chosen hD lk_L_57 (rok (by decide) (by decide)) ⟨by decide, by decide⟩ hM rfl rfl (Nat.le_of_ble_eq_true rfl) ?_
  refine v_i2l h 7 8 dL_chosen_7 rfl rfl ?_
  refine v_last h 8 9 dL_chosen_8 rfl hO (vp_in_nI (n := 0) (by omega) (by decide)) ?_
  rw [nI_clamp (by omega)]
  refine v_goto h 9 15 dL_chosen_9 (by decide) ?_
  refine v_iconst (v := 0) h 15 16 dL_chosen_15 rfl (by decide) ?_
  exact v_ireth h 16 f dL_chosen_16 rfl (by decide) (by decide) rfl (Nat.le_refl _) rfl
set_option maxRecDepth 100000 in
theorem t_chosen1 {E : EE} {w : Wo} {D O : Nat} {fs : List Value} {a1 : Int32} (hD : w.2 D = some (.inr (3, fs))) (hM : Cthr E mX3_chosen w [.ref D, .int a1] xI) : Ch E mL_chosen hL_chosen w [.ref D, .int a1, .ref O] 1 w := by
  refine Ch.of RL rfl (by decide) [some (.ref D), some (.int a1), some (.ref O), none] (Nat.le_of_ble_eq_true rfl) rfl (fun Γ h hZ hTb f => ?_)
  refine v_aload_n (i := 2) h 0 1 dL_chosen_0 rfl rfl ld2 ?_
  refine v_iconst (v := nI 0) h 1 2 dL_chosen_1 rfl (by decide) ?_
  refine v_aload_n (i := 0) h 2 3 dL_chosen_2 rfl rfl ld0 ?_
  refine v_iload_n (i := 1) h 3 4 dL_chosen_3 rfl rfl ld1 ?_
  refine v_callVx h hZ hTb 4 12 dL_chosen_4 cb_X3_chosen cv_X3_chosen hD lk_L_57 (rok (by decide) (by decide)) ⟨by decide, by decide⟩ hM rfl rfl (Nat.le_of_ble_eq_true rfl) [] ⟨0, 9, 12, 13⟩ [] rfl (fun _ h => nomatch h) (by decide) (by decide) ck_13 (by decide +kernel) rfl (fun n' q9 hn => ?_)
  refine v_astore_n (i := 3) h 12 13 dL_chosen_12 rfl rfl (by decide) (so3 rfl) ?_
  refine v_iconst (v := 1) h 13 14 dL_chosen_13 rfl (by decide) ?_
  exact v_ireth h 14 f dL_chosen_14 rfl (by decide) (by decide) rfl hn rfl
def hL_append : HH := [((0 : Nat), (9 : Nat), (12 : Nat), (15 : Nat)), ((0 : Nat), (9 : Nat), (15 : Nat), (17 : Nat))]
theorem cb_L_append : CBW mL_append hL_append 3 := ⟨tg 638 (by decide +kernel) (by decide +kernel), by decide +kernel, by decide +kernel, by decide +kernel⟩
set_option maxRecDepth 100000 in
theorem g_append {E : EE} {w w2 : Wo} {D O : Nat} {fs : List Value} {g : Nat → Int64} {a1 : Int32} {r : Int32} (hD : w.2 D = some (.inr (3, fs))) (hO : w2.2 O = some (.inl (gJ E, 1, .inr (.inl g)))) (hM : Cd E mX3_append w [.ref D, .int a1] (some (.int r)) w2) : Ch E mL_append hL_append w [.ref D, .int a1, .ref O] 0 (wup w2 O (.inl (gJ E, 1, .inr (.inl (vp_updL g 0 r.toInt64))))) := by
  refine Ch.of RL rfl (by decide) [some (.ref D), some (.int a1), some (.ref O), none] (Nat.le_of_ble_eq_true rfl) rfl (fun Γ h hZ hTb f => ?_)
  refine v_aload_n (i := 2) h 0 1 dL_append_0 rfl rfl ld2 ?_
  refine v_iconst (v := nI 0) h 1 2 dL_append_1 rfl (by decide) ?_
  refine v_aload_n (i := 0) h 2 3 dL_append_2 rfl rfl ld0 ?_
  refine v_iload_n (i := 1) h 3 4 dL_append_3 rfl rfl ld1 ?_
  refine v_callV1a h 4 7 dL_append_4 rfl cb_X3_append cv_X3_append hD lk_L_60 (rok (by decide) (by decide)) ⟨by decide, by decide⟩ hM rfl rfl (Nat.le_of_ble_eq_true rfl) ?_
  refine v_i2l h 7 8 dL_append_7 rfl rfl ?_
  refine v_last h 8 9 dL_append_8 rfl hO (vp_in_nI (n := 0) (by omega) (by decide)) ?_
  rw [nI_clamp (by omega)]
  refine v_goto h 9 18 dL_append_9 (by decide) ?_
  refine v_iconst (v := 0) h 18 19 dL_append_18 rfl (by decide) ?_
  exact v_ireth h 19 f dL_append_19 rfl (by decide) (by decide) rfl (Nat.le_refl _) rfl
set_option maxRecDepth 100000 in
theorem t_append1 {E : EE} {w : Wo} {D O : Nat} {fs : List Value} {a1 : Int32} (hD : w.2 D = some (.inr (3, fs))) (hM : Cthr E mX3_append w [.ref D, .int a1] xA) : Ch E mL_append hL_append w [.ref D, .int a1, .ref O] 1 w := by
  refine Ch.of RL rfl (by decide) [some (.ref D), some (.int a1), some (.ref O), none] (Nat.le_of_ble_eq_true rfl) rfl (fun Γ h hZ hTb f => ?_)
  refine v_aload_n (i := 2) h 0 1 dL_append_0 rfl rfl ld2 ?_
  refine v_iconst (v := nI 0) h 1 2 dL_append_1 rfl (by decide) ?_
  refine v_aload_n (i := 0) h 2 3 dL_append_2 rfl rfl ld0 ?_
  refine v_iload_n (i := 1) h 3 4 dL_append_3 rfl rfl ld1 ?_
  refine v_callVx h hZ hTb 4 12 dL_append_4 cb_X3_append cv_X3_append hD lk_L_60 (rok (by decide) (by decide)) ⟨by decide, by decide⟩ hM rfl rfl (Nat.le_of_ble_eq_true rfl) [] ⟨0, 9, 12, 15⟩ [⟨0, 9, 15, 17⟩] rfl (fun _ h => nomatch h) (by decide) (by decide) ck_15 (by decide +kernel) rfl (fun n' q9 hn => ?_)
  refine v_astore_n (i := 3) h 12 13 dL_append_12 rfl rfl (by decide) (so3 rfl) ?_
  refine v_iconst (v := 1) h 13 14 dL_append_13 rfl (by decide) ?_
  exact v_ireth h 14 f dL_append_14 rfl (by decide) (by decide) rfl hn rfl
set_option maxRecDepth 100000 in
theorem t_append2 {E : EE} {w : Wo} {D O : Nat} {fs : List Value} {a1 : Int32} (hD : w.2 D = some (.inr (3, fs))) (hM : Cthr E mX3_append w [.ref D, .int a1] xS) : Ch E mL_append hL_append w [.ref D, .int a1, .ref O] 2 w := by
  refine Ch.of RL rfl (by decide) [some (.ref D), some (.int a1), some (.ref O), none] (Nat.le_of_ble_eq_true rfl) rfl (fun Γ h hZ hTb f => ?_)
  refine v_aload_n (i := 2) h 0 1 dL_append_0 rfl rfl ld2 ?_
  refine v_iconst (v := nI 0) h 1 2 dL_append_1 rfl (by decide) ?_
  refine v_aload_n (i := 0) h 2 3 dL_append_2 rfl rfl ld0 ?_
  refine v_iload_n (i := 1) h 3 4 dL_append_3 rfl rfl ld1 ?_
  refine v_callVx h hZ hTb 4 15 dL_append_4 cb_X3_append cv_X3_append hD lk_L_60 (rok (by decide) (by decide)) ⟨by decide, by decide⟩ hM rfl rfl (Nat.le_of_ble_eq_true rfl) [⟨0, 9, 12, 15⟩] ⟨0, 9, 15, 17⟩ [] rfl (fun z h => by
    rw [List.mem_singleton.mp h]
    exact ⟨by decide, _, ck_15, Or.inr (Or.inr ⟨rfl, rfl⟩)⟩) (by decide) (by decide) ck_17 (by decide +kernel) rfl (fun n' q9 hn => ?_)
  refine v_astore_n (i := 3) h 15 16 dL_append_15 rfl rfl (by decide) (so3 rfl) ?_
  refine v_iconst (v := 2) h 16 17 dL_append_16 rfl (by decide) ?_
  exact v_ireth h 17 f dL_append_17 rfl (by decide) (by decide) rfl hn rfl
def hL_undo : HH := [((0 : Nat), (8 : Nat), (11 : Nat), (17 : Nat))]
theorem cb_L_undo : CBW mL_undo hL_undo 2 := ⟨tg 647 (by decide +kernel) (by decide +kernel), by decide +kernel, by decide +kernel, by decide +kernel⟩
set_option maxRecDepth 100000 in
theorem g_undo {E : EE} {w w2 : Wo} {D O : Nat} {fs : List Value} {g : Nat → Int64} {r : Int32} (hD : w.2 D = some (.inr (3, fs))) (hO : w2.2 O = some (.inl (gJ E, 1, .inr (.inl g)))) (hM : Cd E mX3_undo w [.ref D] (some (.int r)) w2) : Ch E mL_undo hL_undo w [.ref D, .ref O] 0 (wup w2 O (.inl (gJ E, 1, .inr (.inl (vp_updL g 0 r.toInt64))))) := by
  refine Ch.of RL rfl (by decide) [some (.ref D), some (.ref O), none] (Nat.le_of_ble_eq_true rfl) rfl (fun Γ h hZ hTb f => ?_)
  refine v_aload_n (i := 1) h 0 1 dL_undo_0 rfl rfl ld1 ?_
  refine v_iconst (v := nI 0) h 1 2 dL_undo_1 rfl (by decide) ?_
  refine v_aload_n (i := 0) h 2 3 dL_undo_2 rfl rfl ld0 ?_
  refine v_callV1a h 3 6 dL_undo_3 rfl cb_X3_undo cv_X3_undo hD lk_L_63 (rok (by decide) (by decide)) ⟨by decide, by decide⟩ hM rfl rfl (Nat.le_of_ble_eq_true rfl) ?_
  refine v_i2l h 6 7 dL_undo_6 rfl rfl ?_
  refine v_last h 7 8 dL_undo_7 rfl hO (vp_in_nI (n := 0) (by omega) (by decide)) ?_
  rw [nI_clamp (by omega)]
  refine v_goto h 8 14 dL_undo_8 (by decide) ?_
  refine v_iconst (v := 0) h 14 15 dL_undo_14 rfl (by decide) ?_
  exact v_ireth h 15 f dL_undo_15 rfl (by decide) (by decide) rfl (Nat.le_refl _) rfl
set_option maxRecDepth 100000 in
theorem t_undo1 {E : EE} {w : Wo} {D O : Nat} {fs : List Value} (hD : w.2 D = some (.inr (3, fs))) (hM : Cthr E mX3_undo w [.ref D] xS) : Ch E mL_undo hL_undo w [.ref D, .ref O] 1 w := by
  refine Ch.of RL rfl (by decide) [some (.ref D), some (.ref O), none] (Nat.le_of_ble_eq_true rfl) rfl (fun Γ h hZ hTb f => ?_)
  refine v_aload_n (i := 1) h 0 1 dL_undo_0 rfl rfl ld1 ?_
  refine v_iconst (v := nI 0) h 1 2 dL_undo_1 rfl (by decide) ?_
  refine v_aload_n (i := 0) h 2 3 dL_undo_2 rfl rfl ld0 ?_
  refine v_callVx h hZ hTb 3 11 dL_undo_3 cb_X3_undo cv_X3_undo hD lk_L_63 (rok (by decide) (by decide)) ⟨by decide, by decide⟩ hM rfl rfl (Nat.le_of_ble_eq_true rfl) [] ⟨0, 8, 11, 17⟩ [] rfl (fun _ h => nomatch h) (by decide) (by decide) ck_17 (by decide +kernel) rfl (fun n' q9 hn => ?_)
  refine v_astore_n (i := 2) h 11 12 dL_undo_11 rfl rfl (by decide) (so2 rfl) ?_
  refine v_iconst (v := 1) h 12 13 dL_undo_12 rfl (by decide) ?_
  exact v_ireth h 13 f dL_undo_13 rfl (by decide) (by decide) rfl hn rfl
