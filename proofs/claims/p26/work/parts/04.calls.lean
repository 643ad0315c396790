/-! CALLS -/
def loA : List Value → Lo
  | [] => []
  | v :: vs => if v.category = 2 then some v :: none :: loA vs else some v :: loA vs
def loE (as : List Value) (n : Nat) : Lo := loA as ++ List.replicate (n - (loA as).length) none
theorem loA_in : ∀ (as : List Value) (i k : Nat) (v : Value), (loA as)[k]? = some (some v) → (i + k, v) ∈ lv_args i as := by
  intro as
  induction as with
  | nil => intro i k v h; simp [loA] at h
  | cons a as ih =>
    intro i k v h
    unfold loA at h
    unfold lv_args
    by_cases hc : a.category = 2
    · rw [if_pos hc] at h
      rw [if_pos hc]
      match k, h with
      | 0, h => simp at h; subst h; exact List.mem_cons_self
      | 1, h => simp at h
      | k + 2, h =>
        have h2 : (loA as)[k]? = some (some v) := by simpa using h
        have := ih (i + 2) k v h2
        rw [show i + 2 + k = i + (k + 2) by omega] at this
        exact List.mem_cons_of_mem _ this
    · rw [if_neg hc] at h
      rw [if_neg hc]
      match k, h with
      | 0, h => simp at h; subst h; exact List.mem_cons_self
      | k + 1, h =>
        have h2 : (loA as)[k]? = some (some v) := by simpa using h
        have := ih (i + 1) k v h2
        rw [show i + 1 + k = i + (k + 1) by omega] at this
        exact List.mem_cons_of_mem _ this
theorem loE_in (as : List Value) (n k : Nat) (v : Value) (h : (loE as n)[k]? = some (some v)) : (k, v) ∈ lv_args 0 as := by
  unfold loE at h
  by_cases hk : k < (loA as).length
  · rw [List.getElem?_append_left hk] at h
    have := loA_in as 0 k v h
    rwa [Nat.zero_add] at this
  · rw [List.getElem?_append_right (by omega)] at h
    have := List.mem_of_getElem? h
    rw [List.mem_replicate] at this
    exact absurd this.2 (by simp)
theorem Cd.of {E : EE} {M : MI} {w w2 : Wo} {as : List Value} {r : Option Value} (own : String) (hown : (mY M).cls = own) (hpl : plainName (mY M).cls = true) (L0 : Lo) (hlen : (lg_sl as).length ≤ mL M) (hL0 : loE as (mL M) = L0)
    (body : ∀ Γ : Cx, OkB E Γ M own → Fn E Γ M r w2 → MN Γ M → V E Γ 0 0 0 L0 [] w) : Cd E M w as r w2 := by
  subst hL0
  refine Met.ofW (cc := mC M) (maxL := mL M) (ret := mT M) hpl rfl ?_
  intro p e s m args below meth c s₁ B hml hv
  obtain ⟨rfl, hP, hK, hA⟩ := hv
  have hts := atoms_spec (ws := .code (mY M) (mC M) (mL M) (mT M) :: Tg) B.pre
  have h := body (p, e, mR M, s, m, as.toArray, below, meth, c, MQ below (Po E r w2) as.toArray s (mR M).cells (mR M).slots E.2.2)
    ⟨B.exec, B.bytes, hml, by rw [← hown]; exact findClass_of_methodNamed B.named, fun w hw => hts w (List.mem_cons_of_mem _ hw), B.notSynchronized, hK, rfl, hA⟩
    ⟨B.returns, rfl⟩ (name_of_methodNamed B.named B.method).1
  rw [lg_entry_eq]
  have hl := lv_entry as (n := mL M) hlen
  refine h s.heap [] _ hP va_S.rf ?_
  rw [hml]
  exact ⟨hl.1, hl.2.1, fun k v hk => hl.2.2 (k, v) (loE_in as _ k v hk)⟩
/-- a method's own words -/
def CB (M : MI) (n : Nat) : Prop := Cond.code (mY M) (mC M) (mL M) (mT M) ∈ Tg ∧ (mY M).cls ≠ "java/lang/invoke/MethodHandle" ∧ (mY M).cls ≠ "java/lang/invoke/VarHandle" ∧ (parseMethodDescriptor (mY M).desc).map (fun d => d.parameters.length) = some n
def CV (M : MI) (ci : Nat) : Prop := ∃ (T : u_T) (N : Nat), vwCl[ci]? = some ((mY M).cls, T, N) ∧ Cond.instanceMethod (mY M) ∈ Tg ∧ Cond.selects (mY M).cls (mY M) (mY M) ∈ Tg ∧ Cond.initialized (mY M).cls ∈ Tg
def CS (M : MI) : Prop := Cond.static (mY M) ∈ Tg ∧ Cond.initialized (mY M).cls ∈ Tg
theorem tg_in {l : List Cond} (h : ∀ w ∈ l, w ∈ Tg) : GoodIn Tg l := fun w hw => ⟨h w hw, tg_good (h w hw)⟩
def RoomOK (M M2 : MI) : Prop := (mR M2).frames + 1 ≤ (mR M).frames ∧ 8 + (mL M2 + 11) + (mR M2).locals ≤ (mR M).locals
theorem mmax_s : Cond.static Lib.Math.max.name ∈ Tg := tg 420 (by decide +kernel) (by decide +kernel)
theorem mmin_s : Cond.static Lib.Math.min.name ∈ Tg := tg 317 (by decide +kernel) (by decide +kernel)
theorem math_i : Cond.initialized "java/lang/Math" ∈ Tg := tg 13 (by decide +kernel) (by decide +kernel)
theorem mmax_c : Cond.code Lib.Math.max.name Lib.Math.max.code 2 (some .int) ∈ Tg := tg 421 (by decide +kernel) (by decide +kernel)
theorem mmin_c : Cond.code Lib.Math.min.name Lib.Math.min.code 2 (some .int) ∈ Tg := tg 318 (by decide +kernel) (by decide +kernel)
section CALLS
variable {E : EE} {Γ : Cx} {M M2 : MI} {own : String} {k n : Nat} {L : Lo} {st st0 as : List Value} {w w2 : Wo} {idx ci b np : Nat} {fs : List Value}
theorem Cd.blind {U : State} {g : JFrame} {mk : MethodId} {a : Array Value} (q : va_Pc as (fun U => HP E w U.heap ∧ va_K (gD E) vwCl (gtys E) U ∧ ∀ q : Nat, U.heap.size ≤ q → E.2.2 q) a U) : va_Pc as (fun U => HP E w U.heap ∧ va_K (gD E) vwCl (gtys E) U ∧ ∀ q : Nat, U.heap.size ≤ q → E.2.2 q) a (U.calling g mk a) := by
  obtain ⟨q0, q1, q2, q3⟩ := q
  exact ⟨q0, q1, va_K.moved (u := U) (U := U.calling g mk a) (Vm.Alike.refl U.vm) q2, q3⟩

theorem v_callV1 (h : OkB E Γ M own) (pc q : Nat) {v : Value} (hd : decode (mC M) pc = .ok (.invokevirtual idx, 3)) (hq : pc + 3 = q) (hb2 : CB M2 np) (hv : CV M2 ci) (hw : w.2 b = some (.inr (ci, fs))) (hl2 : Cond.methodLink own idx (mY M2) ∈ Tg) (hR2 : RoomOK M M2) (hz : (mR M2).cells = 0 ∧ (mR M2).slots = 0) (hkn : k ≤ (mR M).cells ∧ n ≤ (mR M).slots) (hM : Cd E M2 w (.ref b :: as) (some v) w2) (hn : as.length = np) (hst : st0 = as.reverse ++ .ref b :: st) (hcat : (st.map fun v => v.category).sum ≤ 8) (kk : V E Γ k n q L (v :: st) w2) : V E Γ k n pc L st0 w := by
  obtain ⟨p, e, R, s, m, args, below, meth, c, Q⟩ := Γ
  obtain ⟨hx, hb, hml, hown, hts, hlk, hK, hR, hA0⟩ := h
  subst hq; subst hst; subst hR
  intro H locs ls hP hS hl
  obtain ⟨c1, c2, c3, c4⟩ := hb2
  obtain ⟨T9, N9, v1, v2, v3, v4⟩ := hv
  have hr := va_runV (e := e) (below := below) (meth := meth) (As := as) (rest := st) (b := b) (g := F0 m pc ls (as.reverse ++ .ref b :: st)) (locs := locs) (cells := k) (slots := n) ⟨hx, hb, hml, hown, hts⟩ hM (cwV (C := (mY M2).cls) np hts (tg_in (fun w hw => by
      rcases List.mem_append.mp hw with h | h
      · rcases List.mem_cons.mp h with rfl | h
        · exact hl2
        · rcases List.mem_cons.mp h with rfl | h
          · exact v2
          · rcases List.mem_cons.mp h with rfl | h
            · exact v3
            · rw [List.mem_singleton.mp h]; exact v4
      · rcases List.mem_cons.mp h with rfl | h
        · exact c1
        · exact h)) rfl rfl rfl ⟨rfl, c2, c3, c4⟩ hR2)
    ⟨fun a U g mk q => Cd.blind q, va_recv (tys := gtys E) hK (one_P (hP.2 b _ hw).2) (ci := ci) (q0 := 0) v1 rfl, fun U hU hW => ⟨rfl, by rw [hU]; exact hP, va_K.moved hW.alike hK, by rw [hU]; exact fun q hq => hA0 q (Nat.le_trans hS.1 hq)⟩⟩ rfl hn (hl.1.trans hml) rfl (lv_room (pc := pc) (ls := ls) (rest := as.reverse ++ .ref b :: st) hcat) hd (by rw [hz.1, hz.2]; exact hkn)
  intro T hT X
  obtain ⟨v', st₀, t, T', L', h0, X', hL, e1, e2, ⟨⟨hv', hB⟩, hF⟩, stp⟩ := hr T hT X
  cases hv'
  obtain ⟨-, -, hS'⟩ := vx_keep h0 e1 hS (fun q _ h => h) (fun _ h => h) hL hF
  have hP' : HP E w2 T'.heap := by rw [e1]; exact hB
  rw [hz.1, hz.2] at X'
  obtain ⟨t2, a1, b1⟩ := kk T'.heap (locs ++ L') ls hP' hS' hl T' rfl X'
  exact ⟨t2, stp t2 a1, b1⟩
theorem v_callV1a (h : OkB E Γ M own) (pc q : Nat) {v : Value} (hd : decode (mC M) pc = .ok (.invokevirtual idx, 3)) (hq : pc + 3 = q) (hb2 : CB M2 np) (hv : CV M2 ci) (hw : w.2 b = some (.inr (ci, fs))) (hl2 : Cond.methodLink own idx (mY M2) ∈ Tg) (hR2 : RoomOK M M2) (hkn : k + (mR M2).cells ≤ (mR M).cells ∧ n + (mR M2).slots ≤ (mR M).slots) (hM : Cd E M2 w (.ref b :: as) (some v) w2) (hn : as.length = np) (hst : st0 = as.reverse ++ .ref b :: st) (hcat : (st.map fun v => v.category).sum ≤ 8) (kk : V E Γ (k + (mR M2).cells) (n + (mR M2).slots) q L (v :: st) w2) : V E Γ k n pc L st0 w := by
  obtain ⟨p, e, R, s, m, args, below, meth, c, Q⟩ := Γ
  obtain ⟨hx, hb, hml, hown, hts, hlk, hK, hR, hA0⟩ := h
  subst hq; subst hst; subst hR
  intro H locs ls hP hS hl
  obtain ⟨c1, c2, c3, c4⟩ := hb2
  obtain ⟨T9, N9, v1, v2, v3, v4⟩ := hv
  have hr := va_runV (e := e) (below := below) (meth := meth) (As := as) (rest := st) (b := b) (g := F0 m pc ls (as.reverse ++ .ref b :: st)) (locs := locs) (cells := k) (slots := n) ⟨hx, hb, hml, hown, hts⟩ hM (cwV (C := (mY M2).cls) np hts (tg_in (fun w hw => by
      rcases List.mem_append.mp hw with h | h
      · rcases List.mem_cons.mp h with rfl | h
        · exact hl2
        · rcases List.mem_cons.mp h with rfl | h
          · exact v2
          · rcases List.mem_cons.mp h with rfl | h
            · exact v3
            · rw [List.mem_singleton.mp h]; exact v4
      · rcases List.mem_cons.mp h with rfl | h
        · exact c1
        · exact h)) rfl rfl rfl ⟨rfl, c2, c3, c4⟩ hR2)
    ⟨fun a U g mk q => Cd.blind q, va_recv (tys := gtys E) hK (one_P (hP.2 b _ hw).2) (ci := ci) (q0 := 0) v1 rfl, fun U hU hW => ⟨rfl, by rw [hU]; exact hP, va_K.moved hW.alike hK, by rw [hU]; exact fun q hq => hA0 q (Nat.le_trans hS.1 hq)⟩⟩ rfl hn (hl.1.trans hml) rfl (lv_room (pc := pc) (ls := ls) (rest := as.reverse ++ .ref b :: st) hcat) hd hkn
  intro T hT X
  obtain ⟨v', st₀, t, T', L', h0, X', hL, e1, e2, ⟨⟨hv', hB⟩, hF⟩, stp⟩ := hr T hT X
  cases hv'
  obtain ⟨-, -, hS'⟩ := vx_keep h0 e1 hS (fun q _ h => h) (fun _ h => h) hL hF
  have hP' : HP E w2 T'.heap := by rw [e1]; exact hB
  obtain ⟨t2, a1, b1⟩ := kk T'.heap (locs ++ L') ls hP' hS' hl T' rfl X'
  exact ⟨t2, stp t2 a1, b1⟩
theorem v_callV0 (h : OkB E Γ M own) (pc q : Nat) (hd : decode (mC M) pc = .ok (.invokevirtual idx, 3)) (hq : pc + 3 = q) (hb2 : CB M2 np) (hv : CV M2 ci) (hw : w.2 b = some (.inr (ci, fs))) (hl2 : Cond.methodLink own idx (mY M2) ∈ Tg) (hR2 : RoomOK M M2) (hz : (mR M2).cells = 0 ∧ (mR M2).slots = 0) (hkn : k ≤ (mR M).cells ∧ n ≤ (mR M).slots) (hM : Cd E M2 w (.ref b :: as) none w2) (hn : as.length = np) (hst : st0 = as.reverse ++ .ref b :: st) (hcat : (st.map fun v => v.category).sum ≤ 8) (kk : V E Γ k n q L (st) w2) : V E Γ k n pc L st0 w := by
  obtain ⟨p, e, R, s, m, args, below, meth, c, Q⟩ := Γ
  obtain ⟨hx, hb, hml, hown, hts, hlk, hK, hR, hA0⟩ := h
  subst hq; subst hst; subst hR
  intro H locs ls hP hS hl
  obtain ⟨c1, c2, c3, c4⟩ := hb2
  obtain ⟨T9, N9, v1, v2, v3, v4⟩ := hv
  have hr := va_runV (e := e) (below := below) (meth := meth) (As := as) (rest := st) (b := b) (g := F0 m pc ls (as.reverse ++ .ref b :: st)) (locs := locs) (cells := k) (slots := n) ⟨hx, hb, hml, hown, hts⟩ hM (cwV (C := (mY M2).cls) np hts (tg_in (fun w hw => by
      rcases List.mem_append.mp hw with h | h
      · rcases List.mem_cons.mp h with rfl | h
        · exact hl2
        · rcases List.mem_cons.mp h with rfl | h
          · exact v2
          · rcases List.mem_cons.mp h with rfl | h
            · exact v3
            · rw [List.mem_singleton.mp h]; exact v4
      · rcases List.mem_cons.mp h with rfl | h
        · exact c1
        · exact h)) rfl rfl rfl ⟨rfl, c2, c3, c4⟩ hR2)
    ⟨fun a U g mk q => Cd.blind q, va_recv (tys := gtys E) hK (one_P (hP.2 b _ hw).2) (ci := ci) (q0 := 0) v1 rfl, fun U hU hW => ⟨rfl, by rw [hU]; exact hP, va_K.moved hW.alike hK, by rw [hU]; exact fun q hq => hA0 q (Nat.le_trans hS.1 hq)⟩⟩ rfl hn (hl.1.trans hml) rfl (lv_room (pc := pc) (ls := ls) (rest := as.reverse ++ .ref b :: st) hcat) hd (by rw [hz.1, hz.2]; exact hkn)
  intro T hT X
  obtain ⟨v', st₀, t, T', L', h0, X', hL, e1, e2, ⟨⟨hv', hB⟩, hF⟩, stp⟩ := hr T hT X
  cases hv'
  obtain ⟨-, -, hS'⟩ := vx_keep h0 e1 hS (fun q _ h => h) (fun _ h => h) hL hF
  have hP' : HP E w2 T'.heap := by rw [e1]; exact hB
  rw [hz.1, hz.2] at X'
  obtain ⟨t2, a1, b1⟩ := kk T'.heap (locs ++ L') ls hP' hS' hl T' rfl X'
  exact ⟨t2, stp t2 a1, b1⟩
theorem v_callV0a (h : OkB E Γ M own) (pc q : Nat) (hd : decode (mC M) pc = .ok (.invokevirtual idx, 3)) (hq : pc + 3 = q) (hb2 : CB M2 np) (hv : CV M2 ci) (hw : w.2 b = some (.inr (ci, fs))) (hl2 : Cond.methodLink own idx (mY M2) ∈ Tg) (hR2 : RoomOK M M2) (hkn : k + (mR M2).cells ≤ (mR M).cells ∧ n + (mR M2).slots ≤ (mR M).slots) (hM : Cd E M2 w (.ref b :: as) none w2) (hn : as.length = np) (hst : st0 = as.reverse ++ .ref b :: st) (hcat : (st.map fun v => v.category).sum ≤ 8) (kk : V E Γ (k + (mR M2).cells) (n + (mR M2).slots) q L (st) w2) : V E Γ k n pc L st0 w := by
  obtain ⟨p, e, R, s, m, args, below, meth, c, Q⟩ := Γ
  obtain ⟨hx, hb, hml, hown, hts, hlk, hK, hR, hA0⟩ := h
  subst hq; subst hst; subst hR
  intro H locs ls hP hS hl
  obtain ⟨c1, c2, c3, c4⟩ := hb2
  obtain ⟨T9, N9, v1, v2, v3, v4⟩ := hv
  have hr := va_runV (e := e) (below := below) (meth := meth) (As := as) (rest := st) (b := b) (g := F0 m pc ls (as.reverse ++ .ref b :: st)) (locs := locs) (cells := k) (slots := n) ⟨hx, hb, hml, hown, hts⟩ hM (cwV (C := (mY M2).cls) np hts (tg_in (fun w hw => by
      rcases List.mem_append.mp hw with h | h
      · rcases List.mem_cons.mp h with rfl | h
        · exact hl2
        · rcases List.mem_cons.mp h with rfl | h
          · exact v2
          · rcases List.mem_cons.mp h with rfl | h
            · exact v3
            · rw [List.mem_singleton.mp h]; exact v4
      · rcases List.mem_cons.mp h with rfl | h
        · exact c1
        · exact h)) rfl rfl rfl ⟨rfl, c2, c3, c4⟩ hR2)
    ⟨fun a U g mk q => Cd.blind q, va_recv (tys := gtys E) hK (one_P (hP.2 b _ hw).2) (ci := ci) (q0 := 0) v1 rfl, fun U hU hW => ⟨rfl, by rw [hU]; exact hP, va_K.moved hW.alike hK, by rw [hU]; exact fun q hq => hA0 q (Nat.le_trans hS.1 hq)⟩⟩ rfl hn (hl.1.trans hml) rfl (lv_room (pc := pc) (ls := ls) (rest := as.reverse ++ .ref b :: st) hcat) hd hkn
  intro T hT X
  obtain ⟨v', st₀, t, T', L', h0, X', hL, e1, e2, ⟨⟨hv', hB⟩, hF⟩, stp⟩ := hr T hT X
  cases hv'
  obtain ⟨-, -, hS'⟩ := vx_keep h0 e1 hS (fun q _ h => h) (fun _ h => h) hL hF
  have hP' : HP E w2 T'.heap := by rw [e1]; exact hB
  obtain ⟨t2, a1, b1⟩ := kk T'.heap (locs ++ L') ls hP' hS' hl T' rfl X'
  exact ⟨t2, stp t2 a1, b1⟩
theorem v_callS1 (h : OkB E Γ M own) (pc q : Nat) {v : Value} (hd : decode (mC M) pc = .ok (.invokestatic idx, 3)) (hq : pc + 3 = q) (hb2 : CB M2 np) (hs : CS M2) (hl2 : Cond.methodLink own idx (mY M2) ∈ Tg) (hR2 : RoomOK M M2) (hz : (mR M2).cells = 0 ∧ (mR M2).slots = 0) (hkn : k ≤ (mR M).cells ∧ n ≤ (mR M).slots) (hM : Cd E M2 w (as) (some v) w2) (hn : as.length = np) (hst : st0 = as.reverse ++ st) (hcat : (st.map fun v => v.category).sum ≤ 8) (kk : V E Γ k n q L (v :: st) w2) : V E Γ k n pc L st0 w := by
  obtain ⟨p, e, R, s, m, args, below, meth, c, Q⟩ := Γ
  obtain ⟨hx, hb, hml, hown, hts, hlk, hK, hR, hA0⟩ := h
  subst hq; subst hst; subst hR
  intro H locs ls hP hS hl
  obtain ⟨c1, c2, c3, c4⟩ := hb2
  obtain ⟨v2, v4⟩ := hs
  have hr := va_runS (e := e) (below := below) (meth := meth) (As := as) (rest := st) (g := F0 m pc ls (as.reverse ++ st)) (locs := locs) (cells := k) (slots := n) ⟨hx, hb, hml, hown, hts⟩ hM (va_cwS np hts (tg_in (fun w hw => by
      rcases List.mem_append.mp hw with h | h
      · rcases List.mem_cons.mp h with rfl | h
        · exact hl2
        · rcases List.mem_cons.mp h with rfl | h
          · exact v2
          · rw [List.mem_singleton.mp h]; exact v4
      · rcases List.mem_cons.mp h with rfl | h
        · exact c1
        · exact h)) rfl rfl rfl ⟨c2, c3, c4⟩ hR2)
    ⟨fun a U g mk q => Cd.blind q, fun U hU hW => ⟨rfl, by rw [hU]; exact hP, va_K.moved hW.alike hK, by rw [hU]; exact fun q hq => hA0 q (Nat.le_trans hS.1 hq)⟩⟩ rfl hn (hl.1.trans hml) rfl (lv_room (pc := pc) (ls := ls) (rest := as.reverse ++ st) hcat) hd (by rw [hz.1, hz.2]; exact hkn)
  intro T hT X
  obtain ⟨v', st₀, t, T', L', h0, X', hL, e1, e2, ⟨⟨hv', hB⟩, hF⟩, stp⟩ := hr T hT X
  cases hv'
  obtain ⟨-, -, hS'⟩ := vx_keep h0 e1 hS (fun q _ h => h) (fun _ h => h) hL hF
  have hP' : HP E w2 T'.heap := by rw [e1]; exact hB
  rw [hz.1, hz.2] at X'
  obtain ⟨t2, a1, b1⟩ := kk T'.heap (locs ++ L') ls hP' hS' hl T' rfl X'
  exact ⟨t2, stp t2 a1, b1⟩
theorem v_callS1a (h : OkB E Γ M own) (pc q : Nat) {v : Value} (hd : decode (mC M) pc = .ok (.invokestatic idx, 3)) (hq : pc + 3 = q) (hb2 : CB M2 np) (hs : CS M2) (hl2 : Cond.methodLink own idx (mY M2) ∈ Tg) (hR2 : RoomOK M M2) (hkn : k + (mR M2).cells ≤ (mR M).cells ∧ n + (mR M2).slots ≤ (mR M).slots) (hM : Cd E M2 w (as) (some v) w2) (hn : as.length = np) (hst : st0 = as.reverse ++ st) (hcat : (st.map fun v => v.category).sum ≤ 8) (kk : V E Γ (k + (mR M2).cells) (n + (mR M2).slots) q L (v :: st) w2) : V E Γ k n pc L st0 w := by
  obtain ⟨p, e, R, s, m, args, below, meth, c, Q⟩ := Γ
  obtain ⟨hx, hb, hml, hown, hts, hlk, hK, hR, hA0⟩ := h
  subst hq; subst hst; subst hR
  intro H locs ls hP hS hl
  obtain ⟨c1, c2, c3, c4⟩ := hb2
  obtain ⟨v2, v4⟩ := hs
  have hr := va_runS (e := e) (below := below) (meth := meth) (As := as) (rest := st) (g := F0 m pc ls (as.reverse ++ st)) (locs := locs) (cells := k) (slots := n) ⟨hx, hb, hml, hown, hts⟩ hM (va_cwS np hts (tg_in (fun w hw => by
      rcases List.mem_append.mp hw with h | h
      · rcases List.mem_cons.mp h with rfl | h
        · exact hl2
        · rcases List.mem_cons.mp h with rfl | h
          · exact v2
          · rw [List.mem_singleton.mp h]; exact v4
      · rcases List.mem_cons.mp h with rfl | h
        · exact c1
        · exact h)) rfl rfl rfl ⟨c2, c3, c4⟩ hR2)
    ⟨fun a U g mk q => Cd.blind q, fun U hU hW => ⟨rfl, by rw [hU]; exact hP, va_K.moved hW.alike hK, by rw [hU]; exact fun q hq => hA0 q (Nat.le_trans hS.1 hq)⟩⟩ rfl hn (hl.1.trans hml) rfl (lv_room (pc := pc) (ls := ls) (rest := as.reverse ++ st) hcat) hd hkn
  intro T hT X
  obtain ⟨v', st₀, t, T', L', h0, X', hL, e1, e2, ⟨⟨hv', hB⟩, hF⟩, stp⟩ := hr T hT X
  cases hv'
  obtain ⟨-, -, hS'⟩ := vx_keep h0 e1 hS (fun q _ h => h) (fun _ h => h) hL hF
  have hP' : HP E w2 T'.heap := by rw [e1]; exact hB
  obtain ⟨t2, a1, b1⟩ := kk T'.heap (locs ++ L') ls hP' hS' hl T' rfl X'
  exact ⟨t2, stp t2 a1, b1⟩
theorem v_callS0 (h : OkB E Γ M own) (pc q : Nat) (hd : decode (mC M) pc = .ok (.invokestatic idx, 3)) (hq : pc + 3 = q) (hb2 : CB M2 np) (hs : CS M2) (hl2 : Cond.methodLink own idx (mY M2) ∈ Tg) (hR2 : RoomOK M M2) (hz : (mR M2).cells = 0 ∧ (mR M2).slots = 0) (hkn : k ≤ (mR M).cells ∧ n ≤ (mR M).slots) (hM : Cd E M2 w (as) none w2) (hn : as.length = np) (hst : st0 = as.reverse ++ st) (hcat : (st.map fun v => v.category).sum ≤ 8) (kk : V E Γ k n q L (st) w2) : V E Γ k n pc L st0 w := by
  obtain ⟨p, e, R, s, m, args, below, meth, c, Q⟩ := Γ
  obtain ⟨hx, hb, hml, hown, hts, hlk, hK, hR, hA0⟩ := h
  subst hq; subst hst; subst hR
  intro H locs ls hP hS hl
  obtain ⟨c1, c2, c3, c4⟩ := hb2
  obtain ⟨v2, v4⟩ := hs
  have hr := va_runS (e := e) (below := below) (meth := meth) (As := as) (rest := st) (g := F0 m pc ls (as.reverse ++ st)) (locs := locs) (cells := k) (slots := n) ⟨hx, hb, hml, hown, hts⟩ hM (va_cwS np hts (tg_in (fun w hw => by
      rcases List.mem_append.mp hw with h | h
      · rcases List.mem_cons.mp h with rfl | h
        · exact hl2
        · rcases List.mem_cons.mp h with rfl | h
          · exact v2
          · rw [List.mem_singleton.mp h]; exact v4
      · rcases List.mem_cons.mp h with rfl | h
        · exact c1
        · exact h)) rfl rfl rfl ⟨c2, c3, c4⟩ hR2)
    ⟨fun a U g mk q => Cd.blind q, fun U hU hW => ⟨rfl, by rw [hU]; exact hP, va_K.moved hW.alike hK, by rw [hU]; exact fun q hq => hA0 q (Nat.le_trans hS.1 hq)⟩⟩ rfl hn (hl.1.trans hml) rfl (lv_room (pc := pc) (ls := ls) (rest := as.reverse ++ st) hcat) hd (by rw [hz.1, hz.2]; exact hkn)
  intro T hT X
  obtain ⟨v', st₀, t, T', L', h0, X', hL, e1, e2, ⟨⟨hv', hB⟩, hF⟩, stp⟩ := hr T hT X
  cases hv'
  obtain ⟨-, -, hS'⟩ := vx_keep h0 e1 hS (fun q _ h => h) (fun _ h => h) hL hF
  have hP' : HP E w2 T'.heap := by rw [e1]; exact hB
  rw [hz.1, hz.2] at X'
  obtain ⟨t2, a1, b1⟩ := kk T'.heap (locs ++ L') ls hP' hS' hl T' rfl X'
  exact ⟨t2, stp t2 a1, b1⟩
theorem v_callS0a (h : OkB E Γ M own) (pc q : Nat) (hd : decode (mC M) pc = .ok (.invokestatic idx, 3)) (hq : pc + 3 = q) (hb2 : CB M2 np) (hs : CS M2) (hl2 : Cond.methodLink own idx (mY M2) ∈ Tg) (hR2 : RoomOK M M2) (hkn : k + (mR M2).cells ≤ (mR M).cells ∧ n + (mR M2).slots ≤ (mR M).slots) (hM : Cd E M2 w (as) none w2) (hn : as.length = np) (hst : st0 = as.reverse ++ st) (hcat : (st.map fun v => v.category).sum ≤ 8) (kk : V E Γ (k + (mR M2).cells) (n + (mR M2).slots) q L (st) w2) : V E Γ k n pc L st0 w := by
  obtain ⟨p, e, R, s, m, args, below, meth, c, Q⟩ := Γ
  obtain ⟨hx, hb, hml, hown, hts, hlk, hK, hR, hA0⟩ := h
  subst hq; subst hst; subst hR
  intro H locs ls hP hS hl
  obtain ⟨c1, c2, c3, c4⟩ := hb2
  obtain ⟨v2, v4⟩ := hs
  have hr := va_runS (e := e) (below := below) (meth := meth) (As := as) (rest := st) (g := F0 m pc ls (as.reverse ++ st)) (locs := locs) (cells := k) (slots := n) ⟨hx, hb, hml, hown, hts⟩ hM (va_cwS np hts (tg_in (fun w hw => by
      rcases List.mem_append.mp hw with h | h
      · rcases List.mem_cons.mp h with rfl | h
        · exact hl2
        · rcases List.mem_cons.mp h with rfl | h
          · exact v2
          · rw [List.mem_singleton.mp h]; exact v4
      · rcases List.mem_cons.mp h with rfl | h
        · exact c1
        · exact h)) rfl rfl rfl ⟨c2, c3, c4⟩ hR2)
    ⟨fun a U g mk q => Cd.blind q, fun U hU hW => ⟨rfl, by rw [hU]; exact hP, va_K.moved hW.alike hK, by rw [hU]; exact fun q hq => hA0 q (Nat.le_trans hS.1 hq)⟩⟩ rfl hn (hl.1.trans hml) rfl (lv_room (pc := pc) (ls := ls) (rest := as.reverse ++ st) hcat) hd hkn
  intro T hT X
  obtain ⟨v', st₀, t, T', L', h0, X', hL, e1, e2, ⟨⟨hv', hB⟩, hF⟩, stp⟩ := hr T hT X
  cases hv'
  obtain ⟨-, -, hS'⟩ := vx_keep h0 e1 hS (fun q _ h => h) (fun _ h => h) hL hF
  have hP' : HP E w2 T'.heap := by rw [e1]; exact hB
  obtain ⟨t2, a1, b1⟩ := kk T'.heap (locs ++ L') ls hP' hS' hl T' rfl X'
  exact ⟨t2, stp t2 a1, b1⟩
theorem v_mmax (h : OkB E Γ M own) (pc q : Nat) {x y : Int32} (hd : decode (mC M) pc = .ok (.invokestatic idx, 3)) (hq : pc + 3 = q) (hl2 : Cond.methodLink own idx Lib.Math.max.name ∈ Tg) (hkn : k ≤ (mR M).cells ∧ n ≤ (mR M).slots) (hR2 : 1 ≤ (mR M).frames) (hlo : (st.map fun v => v.category).sum + 13 ≤ (mR M).locals) (kk : V E Γ k n q L (.int (if x < y then y else x) :: st) w) : V E Γ k n pc L (.int y :: .int x :: st) w := by
  obtain ⟨p, e, R, s, m, args, below, meth, c, Q⟩ := Γ
  obtain ⟨hx, hb, hml, hown, hts, hlk, hK, hR, hA0⟩ := h
  subst hq; subst hR
  intro H locs ls hP hS hl
  exact va_mmax hx hb hl.1.symm hown (hts _ hl2) (hts _ mmax_s) (hts _ math_i) (hts _ mmax_c) hR2 hlo hkn.1 hkn.2 hd (kk H locs ls hP hS hl)
theorem v_mmin (h : OkB E Γ M own) (pc q : Nat) {x y : Int32} (hd : decode (mC M) pc = .ok (.invokestatic idx, 3)) (hq : pc + 3 = q) (hl2 : Cond.methodLink own idx Lib.Math.min.name ∈ Tg) (hkn : k ≤ (mR M).cells ∧ n ≤ (mR M).slots) (hR2 : 1 ≤ (mR M).frames) (hlo : (st.map fun v => v.category).sum + 13 ≤ (mR M).locals) (kk : V E Γ k n q L (.int (if y < x then y else x) :: st) w) : V E Γ k n pc L (.int y :: .int x :: st) w := by
  obtain ⟨p, e, R, s, m, args, below, meth, c, Q⟩ := Γ
  obtain ⟨hx, hb, hml, hown, hts, hlk, hK, hR, hA0⟩ := h
  subst hq; subst hR
  intro H locs ls hP hS hl
  exact va_mmin hx hb hl.1.symm hown (hts _ hl2) (hts _ mmin_s) (hts _ math_i) (hts _ mmin_c) hR2 hlo hkn.1 hkn.2 hd (kk H locs ls hP hS hl)
theorem v_ldc2 (h : OkB E Γ M own) (pc q : Nat) {v : Int64} (hd : decode (mC M) pc = .ok (.ldc2_w idx, 3)) (hq : pc + 3 = q) (hl2 : Cond.constantLong own idx v ∈ Tg) (kk : V E Γ k n q L (.long v :: st) w) : V E Γ k n pc L st w := by
  obtain ⟨p, e, R, s, m, args, below, meth, c, Q⟩ := Γ
  obtain ⟨hx, hb, hml, hown, hts, hlk, hK, hR, hA0⟩ := h
  subst hq
  intro H locs ls hP hS hl
  exact lv_ldc2 hx hb hown (hts _ hl2) hd (kk H locs ls hP hS hl)
theorem v_ldc (h : OkB E Γ M own) (pc q : Nat) {v : Int32} (hd : decode (mC M) pc = .ok (.ldc idx, 2)) (hq : pc + 2 = q) (hl2 : Cond.constant own idx v ∈ Tg) (kk : V E Γ k n q L (.int v :: st) w) : V E Γ k n pc L st w := by
  obtain ⟨p, e, R, s, m, args, below, meth, c, Q⟩ := Γ
  obtain ⟨hx, hb, hml, hown, hts, hlk, hK, hR, hA0⟩ := h
  subst hq
  intro H locs ls hP hS hl
  exact lv_ldc hx hb hown (hts _ hl2) hd (kk H locs ls hP hS hl)
end CALLS
