/-! NEW THINGS -/
def oIn : MethodName := ⟨"java/lang/Object", "<init>", "()V"⟩
/-- what the constructors need of the start -/
def CCs (s : State) : Prop := (va_AO RX0 s ∧ va_AO RX2 s ∧ va_AO RX1 s) ∧ (va_Nw (.methodLinkNest RX1 21 yX0_init "LiftDrill") s ∧ va_Nw (.methodLinkNest RX1 28 yX2_init "LiftDrill") s)
theorem CCs.go {s U : State} (hW : s.WarmedH U.vm) (h : CCs s) : CCs U := ⟨⟨va_AO.moved hW.alike h.1.1, va_AO.moved hW.alike h.1.2.1, va_AO.moved hW.alike h.1.2.2⟩, va_Nw.warmM hW h.2.1, va_Nw.warmM hW h.2.2⟩
def PCc (E : EE) (w : Wo) (as : List Value) : Array Value → State → Prop := va_Pc as (fun U => HP E w U.heap ∧ va_K (gD E) vwCl (gtys E) U ∧ (∀ q : Nat, U.heap.size ≤ q → E.2.2 q) ∧ CCs U)
theorem PCc.blind {E : EE} {w : Wo} {as : List Value} {U : State} {g : JFrame} {mk : MethodId} {a : Array Value} (q : PCc E w as a U) : PCc E w as a (U.calling g mk a) := by
  obtain ⟨q0, q1, q2, q3, q4⟩ := q
  exact ⟨q0, q1, va_K.moved (u := U) (U := U.calling g mk a) (Vm.Alike.refl U.vm) q2, q3, ⟨va_AO.moved (u := U) (U := U.calling g mk a) (Vm.Alike.refl U.vm) q4.1.1, va_AO.moved (u := U) (U := U.calling g mk a) (Vm.Alike.refl U.vm) q4.1.2.1, va_AO.moved (u := U) (U := U.calling g mk a) (Vm.Alike.refl U.vm) q4.1.2.2⟩, va_Nw.same (u := U) (U := U.calling g mk a) rfl rfl q4.2.1, va_Nw.same (u := U) (U := U.calling g mk a) rfl rfl q4.2.2⟩
/-- the contract of a constructor that makes cells -/
def Cc (E : EE) (M : MI) (w : Wo) (as : List Value) (w2 : Wo) : Prop := Met E.1 (mY M) (.code (mY M) (mC M) (mL M) (mT M) :: Tg) (mR M) (PCc E w as) (Po E none w2) (mR M).cells (mR M).slots E.2.2
def CG (Γ : Cx) : Prop := match Γ with | (_, _, _, s, _, _, _, _, _, _) => CCs s
theorem Cc.of {E : EE} {M : MI} {w w2 : Wo} {as : List Value} (own : String) (hown : (mY M).cls = own) (hpl : plainName (mY M).cls = true) (L0 : Lo) (hlen : (lg_sl as).length ≤ mL M) (hL0 : loE as (mL M) = L0)
    (body : ∀ Γ : Cx, OkB E Γ M own → CG Γ → Fn E Γ M none w2 → MN Γ M → V E Γ 0 0 0 L0 [] w) : Cc E M w as w2 := by
  subst hL0
  refine Met.ofW (cc := mC M) (maxL := mL M) (ret := mT M) hpl rfl ?_
  intro p e s m args below meth c s₁ B hml hv
  obtain ⟨rfl, hP, hK, hA, hC⟩ := hv
  have hts := atoms_spec (ws := .code (mY M) (mC M) (mL M) (mT M) :: Tg) B.pre
  have h := body (p, e, mR M, s, m, as.toArray, below, meth, c, MQ below (Po E none w2) as.toArray s (mR M).cells (mR M).slots E.2.2)
    ⟨B.exec, B.bytes, hml, by rw [← hown]; exact findClass_of_methodNamed B.named, fun w hw => hts w (List.mem_cons_of_mem _ hw), B.notSynchronized, hK, rfl, hA⟩
    hC ⟨B.returns, rfl⟩ (name_of_methodNamed B.named B.method).1
  rw [lg_entry_eq]
  have hl := lv_entry as (n := mL M) hlen
  refine h s.heap [] _ hP va_S.rf ?_
  rw [hml]
  exact ⟨hl.1, hl.2.1, fun k v hk => hl.2.2 (k, v) (loE_in as _ k v hk)⟩
section NROWS
variable {E : EE} {Γ : Cx} {M M2 : MI} {own : String} {k n : Nat} {L : Lo} {st : List Value} {w w2 : Wo} {idx b : Nat}
theorem new_S {A : Nat → Prop} {H0 H H1 : Heap} {locs : List Loc} (hS : va_S A H0 H locs) (z : H1.size = H.size + 1) (oq : ∀ q : Nat, q < H.size → H1[q]? = H[q]?) : va_S A H0 H1 locs := ⟨Nat.le_trans hS.1 (by omega), fun x h1 h2 => (oq x (Nat.lt_of_lt_of_le h1 hS.1)).trans (hS.2.1 x h1 h2), hS.2.2⟩
theorem v_new (h : OkB E Γ M own) (pc q : Nat) {C : String} {T : u_T} {N ci : Nat} (ty : Nat → FieldType) (hty : ∀ k, k < N → parseFieldDescriptor (T k).2.2.1 = some (ty k)) (hin : ∀ w ∈ u_ws C T N, w ∈ Tg) (hck : Cond.classLink own idx C ∈ Tg) (hinst : Cond.instantiable C N ∈ Tg) (hini : Cond.initialized C ∈ Tg) (hc : vwCl[ci]? = some (C, T, N)) {fs : List Value} (hfs : ∀ j, j < N → defaultValue (ty j) = vp_V fs j) (hd : decode (mC M) pc = .ok (.new idx, 3)) (hq : pc + 3 = q) (hkn : k + 1 ≤ (mR M).cells ∧ n + N ≤ (mR M).slots) (kk : V E Γ (k + 1) (n + N) q L (.ref w.1 :: st) (wnew w (.inr (ci, fs)))) : V E Γ k n pc L st w := by
  obtain ⟨p, e, R, s, m, args, below, meth, c, Q⟩ := Γ
  obtain ⟨hx, hb, hml, hown, hts, hlk, hK, hR, hA0⟩ := h
  subst hq; subst hR
  intro H locs ls hP hS hl
  have hKn := hK.1 ci _ hc
  refine W.newcK hx hb hown (hts _ hck) (hts _ hinst) (hts _ hini) rfl hd hkn.1 hkn.2 hKn.2.1 rfl fun H1 kC hkC e1 z1 o1 => ?_
  rw [← hP.1] at kk
  exact kk H1 locs ls (hP.new (hA0 _ hS.1) z1 o1 ⟨_, hc, (u_born ty hts hin hKn hkC e1 hty).to hfs⟩) (new_S hS z1 o1) hl
theorem v_newI (h : OkB E Γ M own) (pc q : Nat) {x : Int32} {N : Nat} (hd : decode (mC M) pc = .ok (.newarray .int, 2)) (hq : pc + 2 = q) (hn : ¬ x < 0) (hN : x.toNatClampNeg = N) (hby : N * 4 ≤ 536870912) (harr : Cond.arrayClass .int ∈ Tg) (hkn : k + 1 ≤ (mR M).cells ∧ n + N ≤ (mR M).slots) (kk : V E Γ (k + 1) (n + N) q L (.ref w.1 :: st) (wnew w (.inl (gI E, N, .inl (fun _ => 0))))) : V E Γ k n pc L (.int x :: st) w := by
  obtain ⟨p, e, R, s, m, args, below, meth, c, Q⟩ := Γ
  obtain ⟨hx, hb, hml, hown, hts, hlk, hK, hR, hA0⟩ := h
  subst hq; subst hR
  intro H locs ls hP hS hl
  refine va_newaK (atype := .int) hx hb (hts _ harr) rfl hd rfl hn hN hby hkn.1 hkn.2 rfl fun H1 cA e1 z1 o1 hAr hNm => ?_
  have hc : cA = gI E := Option.some.inj (hNm.symm.trans (hK.2 0 (gI E, .int) rfl).2)
  subst hc
  rw [← hP.1] at kk
  exact kk H1 locs ls (hP.new (hA0 _ hS.1) z1 o1 (by show H1[H.size]? = some (vp_cell _ _); exact e1)) (new_S hS z1 o1) hl
theorem v_anew (h : OkB E Γ M own) (pc q : Nat) {x : Int32} {N t0 : Nat} {C : String} {cB : ClassId} (hT : (gtys E)[t0]? = some (cB, .object C)) (hd : decode (mC M) pc = .ok (.anewarray idx, 3)) (hq : pc + 3 = q) (hn : ¬ x < 0) (hN : x.toNatClampNeg = N) (hby : N * 4 ≤ 536870912) (hck : Cond.classLink own idx C ∈ Tg) (hao : match Γ with | (_, _, _, s, _, _, _, _, _, _) => va_AO C s) (hkn : k + 1 ≤ (mR M).cells ∧ n + N ≤ (mR M).slots) (kk : V E Γ (k + 1) (n + N) q L (.ref w.1 :: st) (wnew w (.inl (cB, N, .inr (.inr (.inr (.inr (fun _ => none)))))))) : V E Γ k n pc L (.int x :: st) w := by
  obtain ⟨p, e, R, s, m, args, below, meth, c, Q⟩ := Γ
  obtain ⟨hx, hb, hml, hown, hts, hlk, hK, hR, hA0⟩ := h
  subst hq; subst hR; subst hN
  intro H locs ls hP hS hl
  refine W.anew hx hb hown (hts _ hck) (va_AO.use hao) rfl hd rfl hn hby hkn.1 hkn.2 fun cA kA comp f1 f2 f3 f4 => ?_
  obtain ⟨-, kB, compB, g1, g2, g3, g4⟩ := hK.2 t0 _ hT
  have hc : cA = cB := Option.some.inj (f1.symm.trans g4)
  subst hc
  generalize hH1 : H.push ({ cls := cA, slots := Array.replicate x.toNatClampNeg .null, vm := .none } : Cell) = H1
  have z1 : H1.size = H.size + 1 := by rw [← hH1, Array.size_push]
  have e1 : H1[H.size]? = some (arrV cA x.toNatClampNeg (fun _ => .null)) := by rw [← hH1, Array.getElem?_push_size, ← arrV_new]
  have o1 : ∀ q : Nat, q < H.size → H1[q]? = H[q]? := fun q hq => by rw [← hH1, Array.getElem?_push, if_neg (Nat.ne_of_lt hq)]
  rw [← hP.1] at kk
  exact kk H1 locs ls (hP.new (hA0 _ hS.1) z1 o1 (by show H1[H.size]? = some (vp_cell _ _); rw [vp_cell_q]; exact e1)) (new_S hS z1 o1) hl
theorem v_obj (h : OkB E Γ M own) (pc q : Nat) (hd : decode (mC M) pc = .ok (.invokespecial idx, 3)) (hq : pc + 3 = q) (hl2 : Cond.methodLink own idx objectInit ∈ Tg) (ho : Cond.instanceMethod objectInit ∈ Tg) (hc2 : Cond.code objectInit ⟨#[0xb1]⟩ 1 none ∈ Tg) (hr : 1 ≤ (mR M).frames ∧ 20 ≤ (mR M).locals) (hcat : (st.map fun v => v.category).sum ≤ 4) (kk : V E Γ k n q L st w) : V E Γ k n pc L (.ref b :: st) w := by
  obtain ⟨p, e, R, s, m, args, below, meth, c, Q⟩ := Γ
  obtain ⟨hx, hb, hml, hown, hts, hlk, hK, hR, hA0⟩ := h
  subst hq; subst hR
  intro H locs ls hP hS hl
  refine W.objInit hx hb hown (hts _ hl2) (hts _ ho) (hts _ hc2) rfl hl.1 rfl hd hr.1 ?_ ?_
  · have := hr.2
    simp only [F0, List.map_cons, List.sum_cons, show (Value.ref b).category = 1 from rfl]
    omega
  · exact kk H locs ls hP hS hl
theorem v_aast (h : OkB E Γ M own) (pc q : Nat) {a v N t0 ci : Nat} {r : vw_C} {cA : ClassId} {f : Nat → Option Nat} {vs : List Value} {i : Int32} (hd : decode (mC M) pc = .ok (.aastore, 1)) (hq : pc + 1 = q) (ha : w.2 a = some (.inl (cA, N, .inr (.inr (.inr (.inr f)))))) (hT : (gtys E)[t0]? = some (cA, .object r.1)) (hv : w.2 v = some (.inr (ci, vs))) (hc : vwCl[ci]? = some r) (hin : vp_in i N) (kk : V E Γ k n q L st (wup w a (.inl (cA, N, .inr (.inr (.inr (.inr (va_up f i.toNatClampNeg (some v))))))))) : V E Γ k n pc L (.ref v :: .int i :: .ref a :: st) w := by
  obtain ⟨p, e, R, s, m, args, below, meth, c, Q⟩ := Γ
  obtain ⟨hx, hb, hml, hown, hts, hlk, hK, hR, hA0⟩ := h
  subst hq
  intro H locs ls hP hS hl
  have hlt : i.toNatClampNeg < N := Nat.not_le.mp fun q => hin (Or.inr q)
  have h0 : ¬ i < 0 := fun q => hin (Or.inl q)
  obtain ⟨r', hr', cellV, g1, g2, g3, -⟩ := (hP.2 v _ hv).2
  have hcls := (hK.1 ci r hc).2
  obtain ⟨kA, comp, k1, k2, k3, -⟩ := (hK.2 t0 _ hT).2
  have hcomp : comp = (gD E).1 ci := Option.some.inj (k3.symm.trans hcls.1)
  subst hcomp
  obtain ⟨kC, hkC, -⟩ := hcls.2
  refine W.aast hx hb (hP.2 a _ ha).2 (fun q h => by cases h) (fun h => by cases h) k1 k2 rfl hkC ⟨h0, by show _ < (arrV _ _ _).slots.size; rw [arrV_size]; exact hlt⟩ g1 (fun q h => by rw [g3] at h; cases h) (by rw [g2]; exact hkC) (by rw [g2]; exact va_assign hcls) rfl rfl hd fun H1 e1 z oq => ?_
  refine kk H1 _ ls (hP.up (hP.2 a _ ha).1 z oq ?_) (hS.put z oq (hP.2 a _ ha).1) hl
  show H1[a]? = some (vp_cell _ _)
  rw [e1]
  rw [vp_cell_q, vp_cell_q, arrV_store]
  congr 2
  funext q
  by_cases hq : q = i.toNatClampNeg
  · subst hq
    simp [updV, va_up, va_rf]
  · simp [updV, va_up, hq]
theorem v_initC (h : OkB E Γ M own) (hC : CG Γ) (pc q : Nat) (hd : decode (mC M) pc = .ok (.invokespecial idx, 3)) (hq : pc + 3 = q) (hb2 : CB M2 0) (hnm : (mY M2).name = "<init>") (hi : Cond.instanceMethod (mY M2) ∈ Tg) (hini : Cond.initialized (mY M2).cls ∈ Tg) (hl2 : Cond.methodLink own idx (mY M2) ∈ Tg) (hR2 : RoomOK M M2) (hkn : k + (mR M2).cells ≤ (mR M).cells ∧ n + (mR M2).slots ≤ (mR M).slots) (hT : mT M2 = none) (hM : Cc E M2 w [.ref b] w2) (hcat : (st.map fun v => v.category).sum ≤ 8) (kk : V E Γ (k + (mR M2).cells) (n + (mR M2).slots) q L st w2) : V E Γ k n pc L (.ref b :: st) w := by
  obtain ⟨p, e, R, s, m, args, below, meth, c, Q⟩ := Γ
  obtain ⟨hx, hb, hml, hown, hts, hlk, hK, hR, hA0⟩ := h
  subst hq; subst hR
  intro H locs ls hP hS hl
  obtain ⟨c1, c2, c3, c4⟩ := hb2
  unfold Cc at hM
  rw [hT] at hM c1
  have hG : GoodIn Tg (Cond.code (mY M2) (mC M2) (mL M2) none :: Tg) := tg_in (fun w hw => by
    rcases List.mem_cons.mp hw with rfl | h
    · exact c1
    · exact h)
  have hr := va_runI (e := e) (below := below) (meth := meth) (As := []) (rest := st) (b := b) (g := F0 m pc ls (.ref b :: st)) (locs := locs) (cells := k) (slots := n) ⟨hx, hb, hml, hown, hts⟩ hM (cwI 0 hts hG rfl rfl rfl (hts _ hini) (hts _ hl2) (hts _ hi) hnm ⟨c2, c3, c4⟩ hR2)
    ⟨fun a U g mk q => PCc.blind q, fun U hU hW => ⟨rfl, by rw [hU]; exact hP, va_K.moved hW.alike hK, by rw [hU]; exact fun q hq => hA0 q (Nat.le_trans hS.1 hq), CCs.go hW hC⟩⟩ rfl rfl (hl.1.trans hml) rfl (lv_room (pc := pc) (ls := ls) (rest := .ref b :: st) hcat) hd hkn
  intro T hT2 X
  obtain ⟨v', st₀, t, T', L', h0, X', hL, e1, e2, ⟨⟨hv', hB⟩, hF⟩, stp⟩ := hr T hT2 X
  cases hv'
  obtain ⟨-, -, hS'⟩ := vx_keep h0 e1 hS (fun q _ h => h) (fun _ h => h) hL hF
  have hP' : HP E w2 T'.heap := by rw [e1]; exact hB
  obtain ⟨t2, a1, b1⟩ := kk T'.heap (locs ++ L') ls hP' hS' hl T' rfl X'
  exact ⟨t2, stp t2 a1, b1⟩
theorem v_initN (h : OkB E Γ M own) (pc q : Nat) {host : String} (hd : decode (mC M) pc = .ok (.invokespecial idx, 3)) (hq : pc + 3 = q) (hb2 : CB M2 0) (hnm : (mY M2).name = "<init>") (hi : Cond.instanceMethod (mY M2) ∈ Tg) (hini : Cond.initialized (mY M2).cls ∈ Tg) (hl2 : match Γ with | (_, _, _, s, _, _, _, _, _, _) => va_Nw (.methodLinkNest own idx (mY M2) host) s) (hR2 : RoomOK M M2) (hz : (mR M2).cells = 0 ∧ (mR M2).slots = 0) (hkn : k ≤ (mR M).cells ∧ n ≤ (mR M).slots) (hT : mT M2 = none) (hM : Cd E M2 w [.ref b] none w2) (hcat : (st.map fun v => v.category).sum ≤ 8) (kk : V E Γ k n q L st w2) : V E Γ k n pc L (.ref b :: st) w := by
  obtain ⟨p, e, R, s, m, args, below, meth, c, Q⟩ := Γ
  obtain ⟨hx, hb, hml, hown, hts, hlk, hK, hR, hA0⟩ := h
  subst hq; subst hR
  intro H locs ls hP hS hl
  obtain ⟨c1, c2, c3, c4⟩ := hb2
  unfold Cd at hM
  rw [hT] at hM c1
  have hG : GoodIn Tg (Cond.code (mY M2) (mC M2) (mL M2) none :: Tg) := tg_in (fun w hw => by
    rcases List.mem_cons.mp hw with rfl | h
    · exact c1
    · exact h)
  have hr := va_runIN (e := e) (below := below) (meth := meth) (As := []) (rest := st) (b := b) (g := F0 m pc ls (.ref b :: st)) (locs := locs) (cells := k) (slots := n) ⟨hx, hb, hml, hown, hts⟩ hM ⟨va_cnB 0 hts hG rfl rfl rfl hl2 (hts _ hini) ⟨c2, c3, c4⟩ hR2, hnm, hts _ hi⟩
    ⟨fun a U g mk q => Cd.blind q, fun U hU hW => ⟨rfl, by rw [hU]; exact hP, va_K.moved hW.alike hK, by rw [hU]; exact fun q hq => hA0 q (Nat.le_trans hS.1 hq)⟩⟩ rfl rfl (hl.1.trans hml) rfl (lv_room (pc := pc) (ls := ls) (rest := .ref b :: st) hcat) hd (by rw [hz.1, hz.2]; exact hkn)
  intro T hT2 X
  obtain ⟨v', st₀, t, T', L', h0, X', hL, e1, e2, ⟨⟨hv', hB⟩, hF⟩, stp⟩ := hr T hT2 X
  cases hv'
  obtain ⟨-, -, hS'⟩ := vx_keep h0 e1 hS (fun q _ h => h) (fun _ h => h) hL hF
  have hP' : HP E w2 T'.heap := by rw [e1]; exact hB
  rw [hz.1, hz.2] at X'
  obtain ⟨t2, a1, b1⟩ := kk T'.heap (locs ++ L') ls hP' hS' hl T' rfl X'
  exact ⟨t2, stp t2 a1, b1⟩
end NROWS
