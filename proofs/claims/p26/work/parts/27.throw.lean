/-! THROWS: a contract of a method that throws; the law's helpers -/
def xI : String := "java/lang/IndexOutOfBoundsException"
def xA : String := "java/lang/IllegalArgumentException"
def xS : String := "java/lang/IllegalStateException"
def xAll : List String := [xI, xA, xS]
def xDec : List MethodName := [⟨"java/lang/RuntimeException", "<init>", "(Ljava/lang/String;)V"⟩, ⟨"java/lang/Exception", "<init>", "(Ljava/lang/String;)V"⟩, ⟨"java/lang/Throwable", "<init>", "(Ljava/lang/String;)V"⟩]
def xStr : List (Nat × String) := [(37, "no such span"), (44, "riders or cold out of range"), (53, "no more chairs"), (63, "tiredness out of range"), (68, "no more teams"), (77, "no such span, or the last one"), (79, "minutes out of range"), (93, "no such chair"), (95, "cold out of range"), (102, "the chair is empty"), (111, "no such team"), (127, "the minute would be too great"), (147, "what is out of range"), (157, "no such chair or team"), (166, "index is negative")]
def ZZ (E : EE) (U : State) (H : Heap) : Prop := (vx_Zq Bundle.tN "UNASSIGNED_STACK" Bundle.steD E.2.2 U H ∧ vx_Zq Bundle.tN "SUPPRESSED_SENTINEL" Bundle.listD E.2.2 U H) ∧ (∀ x ∈ xStr, ∃ sa, vk_R RX3 x.1 x.2 sa U) ∧ (va_Nc xA xI U ∧ va_Nc xS xI U ∧ va_Nc xS xA U) ∧ (∀ X ∈ xAll, va_Nw (.castable X X) U) ∧ ∀ x ∈ xDec, va_Nw (.declares x) U
theorem ZZ.go {E : EE} {s U : State} {H : Heap} {locs : List Loc} (h : ZZ E s s.heap) (hS : va_S E.2.2 s.heap H locs) (hW : s.WarmedH U.vm) : ZZ E U H :=
  ⟨⟨vx_Zq.moved hW.alike (h.1.1.kept hS.2.1), vx_Zq.moved hW.alike (h.1.2.kept hS.2.1)⟩, fun x hx => by
    obtain ⟨sa, q⟩ := h.2.1 x hx
    exact ⟨sa, vk_R.warm hW q⟩, ⟨va_Nc.moved hW.alike h.2.2.1.1, va_Nc.moved hW.alike h.2.2.1.2.1, va_Nc.moved hW.alike h.2.2.1.2.2⟩, fun X hX => va_Nw.warmC hW (h.2.2.2.1 X hX), fun x hx => va_Nw.warmD hW (h.2.2.2.2 x hx)⟩
def PZ (E : EE) (w : Wo) (as : List Value) : Array Value → State → Prop := va_Pc as (fun U => HP E w U.heap ∧ va_K (gD E) vwCl (gtys E) U ∧ (∀ q : Nat, U.heap.size ≤ q → E.2.2 q) ∧ ZZ E U U.heap)
theorem PZ.blind {E : EE} {w : Wo} {as : List Value} {U : State} {g : JFrame} {mk : MethodId} {a : Array Value} (q : PZ E w as a U) : PZ E w as a (U.calling g mk a) := by
  obtain ⟨q0, q1, q2, q3, q4⟩ := q
  refine ⟨q0, q1, va_K.moved (u := U) (U := U.calling g mk a) (Vm.Alike.refl U.vm) q2, q3, ?_⟩
  obtain ⟨⟨z1, z2⟩, z3, ⟨z4, z5, z6⟩, z7, z8⟩ := q4
  exact ⟨⟨vx_Zq.moved (u := U) (U := U.calling g mk a) (Vm.Alike.refl U.vm) z1, vx_Zq.moved (u := U) (U := U.calling g mk a) (Vm.Alike.refl U.vm) z2⟩, fun x hx => by
    obtain ⟨sa, q⟩ := z3 x hx
    exact ⟨sa, vk_R.same (u := U) (U := U.calling g mk a) rfl q⟩, ⟨va_Nc.moved (u := U) (U := U.calling g mk a) (Vm.Alike.refl U.vm) z4, va_Nc.moved (u := U) (U := U.calling g mk a) (Vm.Alike.refl U.vm) z5, va_Nc.moved (u := U) (U := U.calling g mk a) (Vm.Alike.refl U.vm) z6⟩, fun X hX => va_Nw.same (u := U) (U := U.calling g mk a) rfl rfl (z7 X hX), fun x hx => va_Nw.same (u := U) (U := U.calling g mk a) rfl rfl (z8 x hx)⟩
/-- what a throw leaves: no cell changed, some new -/
def XQ (E : EE) (w : Wo) (X : String) : String → State → State → Prop := vx_X (fun n : Nat => w.1 ≤ n) (fun Y n t => Y = X ∧ HP E (n, w.2) t.heap) E.2.2
def NQ (E : EE) : Array Value → State → Outcome → State → Prop := va_Qi (fun _ (_ : Unit) => False) (fun _ _ => True) E.2.2
/-- THE CONTRACT of a throw: from the world w with these arguments the method throws an X -/
def Cthr (E : EE) (M : MI) (w : Wo) (as : List Value) (X : String) : Prop := vx_Met E.1 (mY M) (.code (mY M) (mC M) (mL M) (mT M) :: Tg) (mR M) (PZ E w as) (NQ E) (XQ E w X) (mR M).cells (mR M).slots E.2.2
def Xn (E : EE) (Γ : Cx) (M : MI) (X : String) (w : Wo) : Prop := match Γ with
  | (_, _, _, s, _, args, below, _, c, Q) => Q = vx_MQ below (NQ E) (XQ E w X) args s (mR M).cells (mR M).slots E.2.2 ∧ ZZ E s s.heap ∧ ∀ x ∈ c.exceptionTable.toList, False
theorem Cthr.of {E : EE} {M : MI} {w : Wo} {as : List Value} {X : String} (own : String) (hown : (mY M).cls = own) (hpl : plainName (mY M).cls = true) (L0 : Lo) (hlen : (lg_sl as).length ≤ mL M) (hL0 : loE as (mL M) = L0)
    (body : ∀ Γ : Cx, OkB E Γ M own → Xn E Γ M X w → MN Γ M → V E Γ 0 0 0 L0 [] w) : Cthr E M w as X := by
  subst hL0
  refine vx_ofW (cc := mC M) (maxL := mL M) (ret := mT M) hpl rfl ?_
  intro p e s m args below meth c s₁ B hml hno hv
  obtain ⟨rfl, hP, hK, hA, hZ⟩ := hv
  have hts := atoms_spec (ws := .code (mY M) (mC M) (mL M) (mT M) :: Tg) B.pre
  have h := body (p, e, mR M, s, m, as.toArray, below, meth, c, vx_MQ below (NQ E) (XQ E w X) as.toArray s (mR M).cells (mR M).slots E.2.2)
    ⟨B.exec, B.bytes, hml, by rw [← hown]; exact findClass_of_methodNamed B.named, fun w hw => hts w (List.mem_cons_of_mem _ hw), B.notSynchronized, hK, rfl, hA⟩
    ⟨rfl, hZ, hno⟩ (name_of_methodNamed B.named B.method).1
  rw [lg_entry_eq]
  have hl := lv_entry as (n := mL M) hlen
  refine h s.heap [] _ hP va_S.rf ?_
  rw [hml]
  exact ⟨hl.1, hl.2.1, fun k v hk => hl.2.2 (k, v) (loE_in as _ k v hk)⟩
/-- the words of a throw of an X from own's constants ik (the class), ic (the constructor) -/
def xNames : List String := ["java/lang/RuntimeException", "java/lang/Exception"]
def TW (own : String) (ik ic : Nat) (X : String) : Prop := Bundle.fit X = true ∧ (∀ w ∈ Cond.classLink own ik X :: Cond.initialized X :: vx_atS own ic X xNames, vx_ot w = true) ∧ (Cond.classLink own ik X ∈ Tg ∧ Cond.initialized X ∈ Tg ∧ (∀ w ∈ (vx_atS own ic X xNames).filter goodWord, w ∈ Tg) ∧ ∀ w ∈ (vx_atS own ic X xNames).filter (fun w => !goodWord w), w ∈ Cond.castable X X :: xDec.map Cond.declares) ∧ X ∈ xAll
theorem tw_I : TW RX3 35 39 xI := ⟨by decide +kernel, by decide +kernel, ⟨by decide +kernel, by decide +kernel, by decide +kernel, by decide +kernel⟩, by decide +kernel⟩
theorem tw_A : TW RX3 42 46 xA := ⟨by decide +kernel, by decide +kernel, ⟨by decide +kernel, by decide +kernel, by decide +kernel, by decide +kernel⟩, by decide +kernel⟩
theorem tw_S : TW RX3 51 55 xS := ⟨by decide +kernel, by decide +kernel, ⟨by decide +kernel, by decide +kernel, by decide +kernel, by decide +kernel⟩, by decide +kernel⟩
theorem v_throw {E : EE} {Γ : Cx} {M : MI} {X : String} {w : Wo} {L : Lo} (h : OkB E Γ M RX3) (f : Xn E Γ M X w) (hE : E.1.stackTraces = false) (pc p3 p4 p6 p9 : Nat) {ik is ic : Nat} {tx : String} (d0 : decode (mC M) pc = .ok (.new ik, 3)) (d3 : decode (mC M) p3 = .ok (.dup, 1)) (d4 : decode (mC M) p4 = .ok (.ldc is, 2)) (d6 : decode (mC M) p6 = .ok (.invokespecial ic, 3)) (d9 : decode (mC M) p9 = .ok (.athrow, 1)) (h3 : p3 = pc + 3) (h4 : p4 = pc + 4) (h6 : p6 = pc + 6) (h9 : p9 = pc + 9) (hw : TW RX3 ik ic X) (hs : (is, tx) ∈ xStr) (hr : 6 ≤ (mR M).frames ∧ 82 ≤ (mR M).locals ∧ (mR M).cells = 1 ∧ (mR M).slots = 6) : V E Γ 0 0 pc L [] w := by
  obtain ⟨p, e, R, s, m, args, below, meth, c, Q⟩ := Γ
  obtain ⟨hx, hb, hml, hown, hts, hlk, hK, hR, hA0⟩ := h
  obtain ⟨rfl, ⟨⟨zU, zN⟩, zs, -, zc, zd⟩, hno⟩ := f
  subst h3; subst h4; subst h6; subst h9; subst hR
  intro H locs ls hP hS hl
  obtain ⟨sa, hsa⟩ := zs _ hs
  obtain ⟨w1, w2, ⟨w3, w4, w5, w6⟩, w7⟩ := hw
  refine vx_throwS (names := xNames) hx hb hE hown w1 (by decide +kernel) (hts _ w3) (hts _ w4) hsa (vx_hat (fun w hw => hts w (w5 w hw)) w6 (vx_c (va_Nw.use rfl (zc _ w7)) (fun w hw => by
    obtain ⟨x, hx, rfl⟩ := List.mem_map.mp hw
    exact va_Nw.use rfl (zd x hx)))) w2 zU zN hS hl.1 d0 d3 d4 d6 d9 (fun x hx => (hno x hx).elim) (by show 2 + 3 < _; omega) (by show (([] : List Value).map fun v => v.category).sum + (13 * (2 + 1) + 43) ≤ _; simp; omega) (by omega) (by omega) hlk (fun t _ h1 h2 => ⟨t.heap.size, by rw [← hP.1]; exact h1, ⟨rfl, rfl, fun a e ha => ⟨(hP.2 a e ha).1, (hP.2 a e ha).2.kept (h2 a (hP.2 a e ha).2.lt)⟩⟩, ⟨Nat.le_trans hS.1 h1, fun q h3 h4 => by rw [h2 q (Nat.lt_of_lt_of_le h3 hS.1)]; exact hS.2.1 q h3 h4⟩⟩) hS.2.2 (by omega) (by omega)
