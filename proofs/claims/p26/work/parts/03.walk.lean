/-! THE LAYER: E = launch, classes, the cells that may change; Γ = what a body stands in; Wo = heap's size and what each address holds -/
abbrev GG : Type := va_G × (ClassId × ClassId × ClassId × ClassId × ClassId)
abbrev EE : Type := Launch × GG × (Nat → Prop)
abbrev Cx : Type := Program × Env × Room × State × MethodId × Array Value × List Frame × Method × Code × (State → Prop)
abbrev Wo : Type := Nat × (Nat → Option va_E)
abbrev Lo : Type := List (Option Value)
abbrev MI : Type := MethodName × ByteArray × Nat × Option FieldType × Room
def mY (M : MI) : MethodName := M.1
def mC (M : MI) : ByteArray := M.2.1
def mL (M : MI) : Nat := M.2.2.1
def mT (M : MI) : Option FieldType := M.2.2.2.1
def mR (M : MI) : Room := M.2.2.2.2
def gD (E : EE) : va_G := E.2.1.1
def gI (E : EE) : ClassId := E.2.1.2.1
def gJ (E : EE) : ClassId := E.2.1.2.2.1
def gCh (E : EE) : ClassId := E.2.1.2.2.2.1
def gTm (E : EE) : ClassId := E.2.1.2.2.2.2.1
def gLn (E : EE) : ClassId := E.2.1.2.2.2.2.2
def gtys (E : EE) : List (ClassId × FieldType) := [(gI E, .int), (gI E, .int), (gCh E, .object "LiftDrill$Chair"), (gTm E, .object "LiftDrill$Team"), (gLn E, .object "LiftDrill$Line")]
/-- the words that every method gets -/
def Tg : List Cond := lw_tbl.filter goodWord
theorem tg (i : Nat) {w : Cond} (h : lw_tbl[i]? = some w) (g : goodWord w = true) : w ∈ Tg := List.mem_filter.mpr ⟨List.mem_of_getElem? h, g⟩
theorem tg_good {w : Cond} (h : w ∈ Tg) : (w.onTables && w.keeps) = true ∨ ∃ ty, w = .arrayClass ty := good_of_word (List.mem_filter.mp h).2
theorem tg_all : GoodIn Tg Tg := fun _ h => ⟨h, tg_good h⟩
def wup (w : Wo) (a : Nat) (e : va_E) : Wo := (w.1, fun q => if q = a then some e else w.2 q)
/-- a world with one cell more, at the heap's end -/
def wnew (w : Wo) (e : va_E) : Wo := (w.1 + 1, fun q => if q = w.1 then some e else w.2 q)
def HP (E : EE) (w : Wo) (H : Heap) : Prop := H.size = w.1 ∧ ∀ (a : Nat) (e : va_E), w.2 a = some e → E.2.2 a ∧ va_at (gD E) vwCl (a, e) H
def lh (ls : Array Slot) (nL : Nat) (L : Lo) : Prop := ls.size = nL ∧ lv_wf ls ∧ ∀ (k : Nat) (v : Value), L[k]? = some (some v) → ls[k]? = some (.val v)
def OkB (E : EE) (Γ : Cx) (M : MI) (own : String) : Prop := match Γ with
  | (p, _, R, s, m, args, _, meth, c, _) => p.tables.exec = Jvm.exec ∧ c.code = mC M ∧ c.maxLocals = mL M ∧ s.vm.findClass own = some m.cls ∧ (∀ w ∈ Tg, w.before args s = true) ∧ meth.locks = false ∧ va_K (gD E) vwCl (gtys E) s ∧ R = mR M ∧ ∀ q : Nat, s.heap.size ≤ q → E.2.2 q
def V (E : EE) (Γ : Cx) (k n pc : Nat) (L : Lo) (st : List Value) (w : Wo) : Prop := match Γ with
  | (p, e, R, s, m, args, below, meth, c, Q) => ∀ (H : Heap) (locs : List Loc) (ls : Array Slot), HP E w H → va_S E.2.2 s.heap H locs → lh ls c.maxLocals L → W p E.1 e R s m args below meth c H locs k n Q (F0 m pc ls st)
/-- what a method's end says -/
def Po (E : EE) (r : Option Value) (w : Wo) : Array Value → State → Outcome → State → Prop := fun _ st oc t => (oc = .returned r ∧ HP E w t.heap) ∧ va_F E.2.2 st t
def Fn (E : EE) (Γ : Cx) (M : MI) (r : Option Value) (w : Wo) : Prop := match Γ with
  | (_, _, _, s, _, args, below, meth, _, Q) => meth.sig.returnType = mT M ∧ Q = MQ below (Po E r w) args s (mR M).cells (mR M).slots E.2.2
/-- THE CONTRACT: from the world w with these arguments the method returns r, and the world is w2 -/
def Cd (E : EE) (M : MI) (w : Wo) (as : List Value) (r : Option Value) (w2 : Wo) : Prop :=
  Met E.1 (mY M) (.code (mY M) (mC M) (mL M) (mT M) :: Tg) (mR M) (va_Pc as (fun U => HP E w U.heap ∧ va_K (gD E) vwCl (gtys E) U ∧ ∀ q : Nat, U.heap.size ≤ q → E.2.2 q)) (Po E r w2) (mR M).cells (mR M).slots E.2.2
theorem HP.kept {E : EE} {w : Wo} {H H1 : Heap} (h : HP E w H) (z : H1.size = H.size) (hq : ∀ a e, w.2 a = some e → H1[a]? = H[a]?) : HP E w H1 := ⟨z.trans h.1, fun a e ha => ⟨(h.2 a e ha).1, (h.2 a e ha).2.kept (hq a e ha)⟩⟩
theorem HP.up {E : EE} {w : Wo} {H H1 : Heap} {a : Nat} {e : va_E} (h : HP E w H) (hA : E.2.2 a) (z : H1.size = H.size) (oq : ∀ q : Nat, q ≠ a → H1[q]? = H[q]?) (he : va_at (gD E) vwCl (a, e) H1) : HP E (wup w a e) H1 := by
  refine ⟨z.trans h.1, fun q x hx => ?_⟩
  by_cases hq : q = a
  · subst hq
    simp only [wup, if_true, Option.some.injEq] at hx
    subst hx
    exact ⟨hA, he⟩
  · simp only [wup, if_neg hq] at hx
    exact ⟨(h.2 q x hx).1, (h.2 q x hx).2.kept (oq q hq)⟩
theorem HP.new {E : EE} {w : Wo} {H H1 : Heap} {e : va_E} (h : HP E w H) (hA : E.2.2 H.size) (z : H1.size = H.size + 1) (oq : ∀ q : Nat, q < H.size → H1[q]? = H[q]?) (he : va_at (gD E) vwCl (H.size, e) H1) : HP E (wnew w e) H1 := by
  refine ⟨by rw [z, h.1]; rfl, fun q x hx => ?_⟩
  by_cases hq : q = w.1
  · simp only [wnew, if_pos hq, Option.some.injEq] at hx
    subst hx
    rw [hq, ← h.1]
    exact ⟨hA, he⟩
  · simp only [wnew, if_neg hq] at hx
    exact ⟨(h.2 q x hx).1, (h.2 q x hx).2.kept (oq q (h.2 q x hx).2.lt)⟩
theorem one_P {D : va_G} {cl : List vw_C} {a : Nat} {e : va_E} {H : Heap} (h : va_at D cl (a, e) H) : va_P D cl [(a, e)] H := by
  intro k q hk
  have hz : k < 1 := (List.getElem?_eq_some_iff.mp hk).1
  rw [show k = 0 by omega] at hk
  cases hk
  exact h
/-! locals -/
def c1 (v : Option Value) : Bool := match v with | none => true | some v => decide (v.category = 1)
def stOK (L : Lo) (i : Nat) (v : Value) (L' : Lo) : Prop := ∀ (k : Nat) (x : Value), L'[k]? = some (some x) → (k = i ∧ x = v) ∨ (k ≠ i ∧ L[k]? = some (some x) ∧ ¬ (k + 1 = i ∧ x.category = 2))
def stOK2 (L : Lo) (i : Nat) (v : Value) (L' : Lo) : Prop := ∀ (k : Nat) (x : Value), L'[k]? = some (some x) → (k = i ∧ x = v) ∨ (k ≠ i ∧ k ≠ i + 1 ∧ L[k]? = some (some x) ∧ ¬ (k + 1 = i ∧ x.category = 2))
theorem lh_store1 {ls : Array Slot} {nL : Nat} {L L' : Lo} {i : Nat} {v : Value} (h : lh ls nL L) (hi : i < nL) (hc : v.category = 1) (hL : stOK L i v L') : ∃ ls', storeLocals ls i v = some ls' ∧ lh ls' nL L' := by
  obtain ⟨ls', e, h1⟩ := lv_store1 (l := []) (v := v) ⟨h.1, h.2.1, fun q hq => by cases hq⟩ hi hc
  refine ⟨ls', e, h1.1, h1.2.1, fun k x hk => ?_⟩
  rcases hL k x hk with ⟨rfl, rfl⟩ | ⟨a, b, c⟩
  · exact h1.2.2 (k, x) List.mem_cons_self
  · obtain ⟨ls2, e2, h2⟩ := lv_store1 (l := [(k, x)]) (v := v) ⟨h.1, h.2.1, fun q hq => by rw [List.mem_singleton.mp hq]; exact h.2.2 k x b⟩ hi hc
    cases e.symm.trans e2
    refine h2.2.2 (k, x) (List.mem_cons_of_mem _ (List.mem_filter.mpr ⟨List.mem_singleton.mpr rfl, ?_⟩))
    rcases lv_cat x with hx | hx
    · simp [a, hx]
    · have : k + 1 ≠ i := fun q => c ⟨q, hx⟩
      simp [a, this]
theorem lh_store2 {ls : Array Slot} {nL : Nat} {L L' : Lo} {i : Nat} {v : Value} (h : lh ls nL L) (hi : i + 1 < nL) (hc : v.category = 2) (hL : stOK2 L i v L') : ∃ ls', storeLocals ls i v = some ls' ∧ lh ls' nL L' := by
  obtain ⟨ls', e, h1⟩ := lv_store2 (l := []) (v := v) ⟨h.1, h.2.1, fun q hq => by cases hq⟩ hi hc
  refine ⟨ls', e, h1.1, h1.2.1, fun k x hk => ?_⟩
  rcases hL k x hk with ⟨rfl, rfl⟩ | ⟨a, a2, b, c⟩
  · exact h1.2.2 (k, x) List.mem_cons_self
  · obtain ⟨ls2, e2, h2⟩ := lv_store2 (l := [(k, x)]) (v := v) ⟨h.1, h.2.1, fun q hq => by rw [List.mem_singleton.mp hq]; exact h.2.2 k x b⟩ hi hc
    cases e.symm.trans e2
    refine h2.2.2 (k, x) (List.mem_cons_of_mem _ (List.mem_filter.mpr ⟨List.mem_singleton.mpr rfl, ?_⟩))
    rcases lv_cat x with hx | hx
    · simp [a, a2, hx]
    · have : k + 1 ≠ i := fun q => c ⟨q, hx⟩
      simp [a, a2, this]
theorem lh.has {ls : Array Slot} {nL : Nat} {L : Lo} (h : lh ls nL L) : lv_has ls nL [] := ⟨h.1, h.2.1, fun q hq => by cases hq⟩
theorem st_set {L : Lo} {i : Nat} {v : Value} (hp : ∀ j, j + 1 = i → ∀ x, L[j]? = some x → c1 x = true) : stOK L i v (L.set i (some v)) := by
  intro k x hk
  by_cases hki : k = i
  · subst hki
    refine Or.inl ⟨rfl, ?_⟩
    rw [List.getElem?_set] at hk
    simp only [if_true] at hk
    split at hk
    · exact (Option.some.inj (Option.some.inj hk)).symm
    · cases hk
  · rw [List.getElem?_set_ne (Ne.symm hki)] at hk
    refine Or.inr ⟨hki, hk, fun ⟨h1, h2⟩ => ?_⟩
    have h3 := hp k h1 _ hk
    simp only [c1, h2] at h3
    exact absurd h3 (by decide)
theorem st_set2 {L : Lo} {i : Nat} {v : Value} (hp : ∀ j, j + 1 = i → ∀ x, L[j]? = some x → c1 x = true) : stOK2 L i v ((L.set i (some v)).set (i + 1) none) := by
  intro k x hk
  by_cases hki : k = i + 1
  · subst hki
    rw [List.getElem?_set] at hk
    simp only [if_true] at hk
    split at hk <;> cases hk
  · rw [List.getElem?_set_ne (Ne.symm hki)] at hk
    rcases st_set hp k x hk with h | ⟨h1, h2, h3⟩
    · exact Or.inl h
    · exact Or.inr ⟨h1, hki, h2, h3⟩

theorem ld0 {a0 : Option Value} {r : Lo} : (a0 :: r)[0]? = some a0 := rfl
theorem so0 {a0 : Option Value} {r : Lo} {v : Value} : stOK (a0 :: r) 0 v (some v :: r) := st_set (L := a0 :: r) (i := 0) (fun j hj x hx => by exact absurd hj (Nat.succ_ne_zero j))
theorem sl0 {a0 b : Option Value} {r : Lo} {v : Value} : stOK2 (a0 :: b :: r) 0 v (some v :: none :: r) := st_set2 (L := a0 :: b :: r) (i := 0) (fun j hj x hx => by exact absurd hj (Nat.succ_ne_zero j))
theorem ld1 {a0 a1 : Option Value} {r : Lo} : (a0 :: a1 :: r)[1]? = some a1 := rfl
theorem so1 {a0 a1 : Option Value} {r : Lo} {v : Value} (h : c1 a0 = true) : stOK (a0 :: a1 :: r) 1 v (a0 :: some v :: r) := st_set (L := a0 :: a1 :: r) (i := 1) (fun j hj x hx => by cases (Nat.succ.inj hj : j = 0); cases (Option.some.inj hx); exact h)
theorem sl1 {a0 a1 b : Option Value} {r : Lo} {v : Value} (h : c1 a0 = true) : stOK2 (a0 :: a1 :: b :: r) 1 v (a0 :: some v :: none :: r) := st_set2 (L := a0 :: a1 :: b :: r) (i := 1) (fun j hj x hx => by cases (Nat.succ.inj hj : j = 0); cases (Option.some.inj hx); exact h)
theorem ld2 {a0 a1 a2 : Option Value} {r : Lo} : (a0 :: a1 :: a2 :: r)[2]? = some a2 := rfl
theorem so2 {a0 a1 a2 : Option Value} {r : Lo} {v : Value} (h : c1 a1 = true) : stOK (a0 :: a1 :: a2 :: r) 2 v (a0 :: a1 :: some v :: r) := st_set (L := a0 :: a1 :: a2 :: r) (i := 2) (fun j hj x hx => by cases (Nat.succ.inj hj : j = 1); cases (Option.some.inj hx); exact h)
theorem sl2 {a0 a1 a2 b : Option Value} {r : Lo} {v : Value} (h : c1 a1 = true) : stOK2 (a0 :: a1 :: a2 :: b :: r) 2 v (a0 :: a1 :: some v :: none :: r) := st_set2 (L := a0 :: a1 :: a2 :: b :: r) (i := 2) (fun j hj x hx => by cases (Nat.succ.inj hj : j = 1); cases (Option.some.inj hx); exact h)
theorem ld3 {a0 a1 a2 a3 : Option Value} {r : Lo} : (a0 :: a1 :: a2 :: a3 :: r)[3]? = some a3 := rfl
theorem so3 {a0 a1 a2 a3 : Option Value} {r : Lo} {v : Value} (h : c1 a2 = true) : stOK (a0 :: a1 :: a2 :: a3 :: r) 3 v (a0 :: a1 :: a2 :: some v :: r) := st_set (L := a0 :: a1 :: a2 :: a3 :: r) (i := 3) (fun j hj x hx => by cases (Nat.succ.inj hj : j = 2); cases (Option.some.inj hx); exact h)
theorem sl3 {a0 a1 a2 a3 b : Option Value} {r : Lo} {v : Value} (h : c1 a2 = true) : stOK2 (a0 :: a1 :: a2 :: a3 :: b :: r) 3 v (a0 :: a1 :: a2 :: some v :: none :: r) := st_set2 (L := a0 :: a1 :: a2 :: a3 :: b :: r) (i := 3) (fun j hj x hx => by cases (Nat.succ.inj hj : j = 2); cases (Option.some.inj hx); exact h)
theorem ld4 {a0 a1 a2 a3 a4 : Option Value} {r : Lo} : (a0 :: a1 :: a2 :: a3 :: a4 :: r)[4]? = some a4 := rfl
theorem so4 {a0 a1 a2 a3 a4 : Option Value} {r : Lo} {v : Value} (h : c1 a3 = true) : stOK (a0 :: a1 :: a2 :: a3 :: a4 :: r) 4 v (a0 :: a1 :: a2 :: a3 :: some v :: r) := st_set (L := a0 :: a1 :: a2 :: a3 :: a4 :: r) (i := 4) (fun j hj x hx => by cases (Nat.succ.inj hj : j = 3); cases (Option.some.inj hx); exact h)
theorem sl4 {a0 a1 a2 a3 a4 b : Option Value} {r : Lo} {v : Value} (h : c1 a3 = true) : stOK2 (a0 :: a1 :: a2 :: a3 :: a4 :: b :: r) 4 v (a0 :: a1 :: a2 :: a3 :: some v :: none :: r) := st_set2 (L := a0 :: a1 :: a2 :: a3 :: a4 :: b :: r) (i := 4) (fun j hj x hx => by cases (Nat.succ.inj hj : j = 3); cases (Option.some.inj hx); exact h)
theorem ld5 {a0 a1 a2 a3 a4 a5 : Option Value} {r : Lo} : (a0 :: a1 :: a2 :: a3 :: a4 :: a5 :: r)[5]? = some a5 := rfl
theorem so5 {a0 a1 a2 a3 a4 a5 : Option Value} {r : Lo} {v : Value} (h : c1 a4 = true) : stOK (a0 :: a1 :: a2 :: a3 :: a4 :: a5 :: r) 5 v (a0 :: a1 :: a2 :: a3 :: a4 :: some v :: r) := st_set (L := a0 :: a1 :: a2 :: a3 :: a4 :: a5 :: r) (i := 5) (fun j hj x hx => by cases (Nat.succ.inj hj : j = 4); cases (Option.some.inj hx); exact h)
theorem sl5 {a0 a1 a2 a3 a4 a5 b : Option Value} {r : Lo} {v : Value} (h : c1 a4 = true) : stOK2 (a0 :: a1 :: a2 :: a3 :: a4 :: a5 :: b :: r) 5 v (a0 :: a1 :: a2 :: a3 :: a4 :: some v :: none :: r) := st_set2 (L := a0 :: a1 :: a2 :: a3 :: a4 :: a5 :: b :: r) (i := 5) (fun j hj x hx => by cases (Nat.succ.inj hj : j = 4); cases (Option.some.inj hx); exact h)
theorem ld6 {a0 a1 a2 a3 a4 a5 a6 : Option Value} {r : Lo} : (a0 :: a1 :: a2 :: a3 :: a4 :: a5 :: a6 :: r)[6]? = some a6 := rfl
theorem so6 {a0 a1 a2 a3 a4 a5 a6 : Option Value} {r : Lo} {v : Value} (h : c1 a5 = true) : stOK (a0 :: a1 :: a2 :: a3 :: a4 :: a5 :: a6 :: r) 6 v (a0 :: a1 :: a2 :: a3 :: a4 :: a5 :: some v :: r) := st_set (L := a0 :: a1 :: a2 :: a3 :: a4 :: a5 :: a6 :: r) (i := 6) (fun j hj x hx => by cases (Nat.succ.inj hj : j = 5); cases (Option.some.inj hx); exact h)
theorem sl6 {a0 a1 a2 a3 a4 a5 a6 b : Option Value} {r : Lo} {v : Value} (h : c1 a5 = true) : stOK2 (a0 :: a1 :: a2 :: a3 :: a4 :: a5 :: a6 :: b :: r) 6 v (a0 :: a1 :: a2 :: a3 :: a4 :: a5 :: some v :: none :: r) := st_set2 (L := a0 :: a1 :: a2 :: a3 :: a4 :: a5 :: a6 :: b :: r) (i := 6) (fun j hj x hx => by cases (Nat.succ.inj hj : j = 5); cases (Option.some.inj hx); exact h)
theorem ld7 {a0 a1 a2 a3 a4 a5 a6 a7 : Option Value} {r : Lo} : (a0 :: a1 :: a2 :: a3 :: a4 :: a5 :: a6 :: a7 :: r)[7]? = some a7 := rfl
theorem so7 {a0 a1 a2 a3 a4 a5 a6 a7 : Option Value} {r : Lo} {v : Value} (h : c1 a6 = true) : stOK (a0 :: a1 :: a2 :: a3 :: a4 :: a5 :: a6 :: a7 :: r) 7 v (a0 :: a1 :: a2 :: a3 :: a4 :: a5 :: a6 :: some v :: r) := st_set (L := a0 :: a1 :: a2 :: a3 :: a4 :: a5 :: a6 :: a7 :: r) (i := 7) (fun j hj x hx => by cases (Nat.succ.inj hj : j = 6); cases (Option.some.inj hx); exact h)
theorem sl7 {a0 a1 a2 a3 a4 a5 a6 a7 b : Option Value} {r : Lo} {v : Value} (h : c1 a6 = true) : stOK2 (a0 :: a1 :: a2 :: a3 :: a4 :: a5 :: a6 :: a7 :: b :: r) 7 v (a0 :: a1 :: a2 :: a3 :: a4 :: a5 :: a6 :: some v :: none :: r) := st_set2 (L := a0 :: a1 :: a2 :: a3 :: a4 :: a5 :: a6 :: a7 :: b :: r) (i := 7) (fun j hj x hx => by cases (Nat.succ.inj hj : j = 6); cases (Option.some.inj hx); exact h)
theorem ld8 {a0 a1 a2 a3 a4 a5 a6 a7 a8 : Option Value} {r : Lo} : (a0 :: a1 :: a2 :: a3 :: a4 :: a5 :: a6 :: a7 :: a8 :: r)[8]? = some a8 := rfl
theorem so8 {a0 a1 a2 a3 a4 a5 a6 a7 a8 : Option Value} {r : Lo} {v : Value} (h : c1 a7 = true) : stOK (a0 :: a1 :: a2 :: a3 :: a4 :: a5 :: a6 :: a7 :: a8 :: r) 8 v (a0 :: a1 :: a2 :: a3 :: a4 :: a5 :: a6 :: a7 :: some v :: r) := st_set (L := a0 :: a1 :: a2 :: a3 :: a4 :: a5 :: a6 :: a7 :: a8 :: r) (i := 8) (fun j hj x hx => by cases (Nat.succ.inj hj : j = 7); cases (Option.some.inj hx); exact h)
theorem sl8 {a0 a1 a2 a3 a4 a5 a6 a7 a8 b : Option Value} {r : Lo} {v : Value} (h : c1 a7 = true) : stOK2 (a0 :: a1 :: a2 :: a3 :: a4 :: a5 :: a6 :: a7 :: a8 :: b :: r) 8 v (a0 :: a1 :: a2 :: a3 :: a4 :: a5 :: a6 :: a7 :: some v :: none :: r) := st_set2 (L := a0 :: a1 :: a2 :: a3 :: a4 :: a5 :: a6 :: a7 :: a8 :: b :: r) (i := 8) (fun j hj x hx => by cases (Nat.succ.inj hj : j = 7); cases (Option.some.inj hx); exact h)
theorem ld9 {a0 a1 a2 a3 a4 a5 a6 a7 a8 a9 : Option Value} {r : Lo} : (a0 :: a1 :: a2 :: a3 :: a4 :: a5 :: a6 :: a7 :: a8 :: a9 :: r)[9]? = some a9 := rfl
theorem so9 {a0 a1 a2 a3 a4 a5 a6 a7 a8 a9 : Option Value} {r : Lo} {v : Value} (h : c1 a8 = true) : stOK (a0 :: a1 :: a2 :: a3 :: a4 :: a5 :: a6 :: a7 :: a8 :: a9 :: r) 9 v (a0 :: a1 :: a2 :: a3 :: a4 :: a5 :: a6 :: a7 :: a8 :: some v :: r) := st_set (L := a0 :: a1 :: a2 :: a3 :: a4 :: a5 :: a6 :: a7 :: a8 :: a9 :: r) (i := 9) (fun j hj x hx => by cases (Nat.succ.inj hj : j = 8); cases (Option.some.inj hx); exact h)
theorem sl9 {a0 a1 a2 a3 a4 a5 a6 a7 a8 a9 b : Option Value} {r : Lo} {v : Value} (h : c1 a8 = true) : stOK2 (a0 :: a1 :: a2 :: a3 :: a4 :: a5 :: a6 :: a7 :: a8 :: a9 :: b :: r) 9 v (a0 :: a1 :: a2 :: a3 :: a4 :: a5 :: a6 :: a7 :: a8 :: some v :: none :: r) := st_set2 (L := a0 :: a1 :: a2 :: a3 :: a4 :: a5 :: a6 :: a7 :: a8 :: a9 :: b :: r) (i := 9) (fun j hj x hx => by cases (Nat.succ.inj hj : j = 8); cases (Option.some.inj hx); exact h)
theorem ld10 {a0 a1 a2 a3 a4 a5 a6 a7 a8 a9 a10 : Option Value} {r : Lo} : (a0 :: a1 :: a2 :: a3 :: a4 :: a5 :: a6 :: a7 :: a8 :: a9 :: a10 :: r)[10]? = some a10 := rfl
theorem so10 {a0 a1 a2 a3 a4 a5 a6 a7 a8 a9 a10 : Option Value} {r : Lo} {v : Value} (h : c1 a9 = true) : stOK (a0 :: a1 :: a2 :: a3 :: a4 :: a5 :: a6 :: a7 :: a8 :: a9 :: a10 :: r) 10 v (a0 :: a1 :: a2 :: a3 :: a4 :: a5 :: a6 :: a7 :: a8 :: a9 :: some v :: r) := st_set (L := a0 :: a1 :: a2 :: a3 :: a4 :: a5 :: a6 :: a7 :: a8 :: a9 :: a10 :: r) (i := 10) (fun j hj x hx => by cases (Nat.succ.inj hj : j = 9); cases (Option.some.inj hx); exact h)
theorem sl10 {a0 a1 a2 a3 a4 a5 a6 a7 a8 a9 a10 b : Option Value} {r : Lo} {v : Value} (h : c1 a9 = true) : stOK2 (a0 :: a1 :: a2 :: a3 :: a4 :: a5 :: a6 :: a7 :: a8 :: a9 :: a10 :: b :: r) 10 v (a0 :: a1 :: a2 :: a3 :: a4 :: a5 :: a6 :: a7 :: a8 :: a9 :: some v :: none :: r) := st_set2 (L := a0 :: a1 :: a2 :: a3 :: a4 :: a5 :: a6 :: a7 :: a8 :: a9 :: a10 :: b :: r) (i := 10) (fun j hj x hx => by cases (Nat.succ.inj hj : j = 9); cases (Option.some.inj hx); exact h)
theorem ld11 {a0 a1 a2 a3 a4 a5 a6 a7 a8 a9 a10 a11 : Option Value} {r : Lo} : (a0 :: a1 :: a2 :: a3 :: a4 :: a5 :: a6 :: a7 :: a8 :: a9 :: a10 :: a11 :: r)[11]? = some a11 := rfl
theorem so11 {a0 a1 a2 a3 a4 a5 a6 a7 a8 a9 a10 a11 : Option Value} {r : Lo} {v : Value} (h : c1 a10 = true) : stOK (a0 :: a1 :: a2 :: a3 :: a4 :: a5 :: a6 :: a7 :: a8 :: a9 :: a10 :: a11 :: r) 11 v (a0 :: a1 :: a2 :: a3 :: a4 :: a5 :: a6 :: a7 :: a8 :: a9 :: a10 :: some v :: r) := st_set (L := a0 :: a1 :: a2 :: a3 :: a4 :: a5 :: a6 :: a7 :: a8 :: a9 :: a10 :: a11 :: r) (i := 11) (fun j hj x hx => by cases (Nat.succ.inj hj : j = 10); cases (Option.some.inj hx); exact h)
theorem sl11 {a0 a1 a2 a3 a4 a5 a6 a7 a8 a9 a10 a11 b : Option Value} {r : Lo} {v : Value} (h : c1 a10 = true) : stOK2 (a0 :: a1 :: a2 :: a3 :: a4 :: a5 :: a6 :: a7 :: a8 :: a9 :: a10 :: a11 :: b :: r) 11 v (a0 :: a1 :: a2 :: a3 :: a4 :: a5 :: a6 :: a7 :: a8 :: a9 :: a10 :: some v :: none :: r) := st_set2 (L := a0 :: a1 :: a2 :: a3 :: a4 :: a5 :: a6 :: a7 :: a8 :: a9 :: a10 :: a11 :: b :: r) (i := 11) (fun j hj x hx => by cases (Nat.succ.inj hj : j = 10); cases (Option.some.inj hx); exact h)
theorem ld12 {a0 a1 a2 a3 a4 a5 a6 a7 a8 a9 a10 a11 a12 : Option Value} {r : Lo} : (a0 :: a1 :: a2 :: a3 :: a4 :: a5 :: a6 :: a7 :: a8 :: a9 :: a10 :: a11 :: a12 :: r)[12]? = some a12 := rfl
theorem so12 {a0 a1 a2 a3 a4 a5 a6 a7 a8 a9 a10 a11 a12 : Option Value} {r : Lo} {v : Value} (h : c1 a11 = true) : stOK (a0 :: a1 :: a2 :: a3 :: a4 :: a5 :: a6 :: a7 :: a8 :: a9 :: a10 :: a11 :: a12 :: r) 12 v (a0 :: a1 :: a2 :: a3 :: a4 :: a5 :: a6 :: a7 :: a8 :: a9 :: a10 :: a11 :: some v :: r) := st_set (L := a0 :: a1 :: a2 :: a3 :: a4 :: a5 :: a6 :: a7 :: a8 :: a9 :: a10 :: a11 :: a12 :: r) (i := 12) (fun j hj x hx => by cases (Nat.succ.inj hj : j = 11); cases (Option.some.inj hx); exact h)
theorem sl12 {a0 a1 a2 a3 a4 a5 a6 a7 a8 a9 a10 a11 a12 b : Option Value} {r : Lo} {v : Value} (h : c1 a11 = true) : stOK2 (a0 :: a1 :: a2 :: a3 :: a4 :: a5 :: a6 :: a7 :: a8 :: a9 :: a10 :: a11 :: a12 :: b :: r) 12 v (a0 :: a1 :: a2 :: a3 :: a4 :: a5 :: a6 :: a7 :: a8 :: a9 :: a10 :: a11 :: some v :: none :: r) := st_set2 (L := a0 :: a1 :: a2 :: a3 :: a4 :: a5 :: a6 :: a7 :: a8 :: a9 :: a10 :: a11 :: a12 :: b :: r) (i := 12) (fun j hj x hx => by cases (Nat.succ.inj hj : j = 11); cases (Option.some.inj hx); exact h)
theorem ld13 {a0 a1 a2 a3 a4 a5 a6 a7 a8 a9 a10 a11 a12 a13 : Option Value} {r : Lo} : (a0 :: a1 :: a2 :: a3 :: a4 :: a5 :: a6 :: a7 :: a8 :: a9 :: a10 :: a11 :: a12 :: a13 :: r)[13]? = some a13 := rfl
theorem so13 {a0 a1 a2 a3 a4 a5 a6 a7 a8 a9 a10 a11 a12 a13 : Option Value} {r : Lo} {v : Value} (h : c1 a12 = true) : stOK (a0 :: a1 :: a2 :: a3 :: a4 :: a5 :: a6 :: a7 :: a8 :: a9 :: a10 :: a11 :: a12 :: a13 :: r) 13 v (a0 :: a1 :: a2 :: a3 :: a4 :: a5 :: a6 :: a7 :: a8 :: a9 :: a10 :: a11 :: a12 :: some v :: r) := st_set (L := a0 :: a1 :: a2 :: a3 :: a4 :: a5 :: a6 :: a7 :: a8 :: a9 :: a10 :: a11 :: a12 :: a13 :: r) (i := 13) (fun j hj x hx => by cases (Nat.succ.inj hj : j = 12); cases (Option.some.inj hx); exact h)
theorem sl13 {a0 a1 a2 a3 a4 a5 a6 a7 a8 a9 a10 a11 a12 a13 b : Option Value} {r : Lo} {v : Value} (h : c1 a12 = true) : stOK2 (a0 :: a1 :: a2 :: a3 :: a4 :: a5 :: a6 :: a7 :: a8 :: a9 :: a10 :: a11 :: a12 :: a13 :: b :: r) 13 v (a0 :: a1 :: a2 :: a3 :: a4 :: a5 :: a6 :: a7 :: a8 :: a9 :: a10 :: a11 :: a12 :: some v :: none :: r) := st_set2 (L := a0 :: a1 :: a2 :: a3 :: a4 :: a5 :: a6 :: a7 :: a8 :: a9 :: a10 :: a11 :: a12 :: a13 :: b :: r) (i := 13) (fun j hj x hx => by cases (Nat.succ.inj hj : j = 12); cases (Option.some.inj hx); exact h)
/-- the method's name -/
def MN (Γ : Cx) (M : MI) : Prop := match Γ with | (_, _, _, _, _, _, _, meth, _, _) => meth.name = (mY M).name
section ROWS
variable {E : EE} {Γ : Cx} {M : MI} {own : String} {k n : Nat} {L : Lo} {st : List Value} {w : Wo}
/-- fewer locals known -/
theorem V.weak {pc : Nat} {L' : Lo} (hL : ∀ (i : Nat) (v : Value), L'[i]? = some (some v) → L[i]? = some (some v)) (kk : V E Γ k n pc L' st w) : V E Γ k n pc L st w := by
  obtain ⟨p, e, R, s, m, args, below, meth, c, Q⟩ := Γ
  intro H locs ls hP hS hl
  exact kk H locs ls hP hS ⟨hl.1, hl.2.1, fun i v h => hl.2.2 i v (hL i v h)⟩
theorem V.widen {pc k' n' : Nat} (h1 : k ≤ k') (h2 : n ≤ n') (kk : V E Γ k' n' pc L st w) : V E Γ k n pc L st w := by
  obtain ⟨p, e, R, s, m, args, below, meth, c, Q⟩ := Γ
  intro H locs ls hP hS hl
  exact W.widen h1 h2 (kk H locs ls hP hS hl)
theorem v_iconst (h : OkB E Γ M own) (pc q : Nat) {z : Int} {v : Int32} (hd : decode (mC M) pc = .ok (.iconst z, 1)) (hq : pc + 1 = q) (hv : Int32.ofInt z = v) (kk : V E Γ k n q L (.int v :: st) w) : V E Γ k n pc L (st) w := by
  obtain ⟨p, e, R, s, m, args, below, meth, c, Q⟩ := Γ
  obtain ⟨hx, hb, hml, hown, hts, hlk, hK, hR, hA0⟩ := h
  subst hq
  intro H locs ls hP hS hl
  exact lv_iconst hx hb hd hv (kk H locs ls hP hS hl)
theorem v_bipush (h : OkB E Γ M own) (pc q : Nat) {z : Int} {v : Int32} (hd : decode (mC M) pc = .ok (.bipush z, 2)) (hq : pc + 2 = q) (hv : (Int8.ofInt z).toInt32 = v) (kk : V E Γ k n q L (.int v :: st) w) : V E Γ k n pc L (st) w := by
  obtain ⟨p, e, R, s, m, args, below, meth, c, Q⟩ := Γ
  obtain ⟨hx, hb, hml, hown, hts, hlk, hK, hR, hA0⟩ := h
  subst hq
  intro H locs ls hP hS hl
  exact lv_bipush hx hb hd hv (kk H locs ls hP hS hl)
theorem v_sipush (h : OkB E Γ M own) (pc q : Nat) {z : Int} {v : Int32} (hd : decode (mC M) pc = .ok (.sipush z, 3)) (hq : pc + 3 = q) (hv : (Int16.ofInt z).toInt32 = v) (kk : V E Γ k n q L (.int v :: st) w) : V E Γ k n pc L (st) w := by
  obtain ⟨p, e, R, s, m, args, below, meth, c, Q⟩ := Γ
  obtain ⟨hx, hb, hml, hown, hts, hlk, hK, hR, hA0⟩ := h
  subst hq
  intro H locs ls hP hS hl
  exact lv_sipush hx hb hd hv (kk H locs ls hP hS hl)
theorem v_lconst (h : OkB E Γ M own) (pc q : Nat) {z : Fin 2} {v : Int64} (hd : decode (mC M) pc = .ok (.lconst z, 1)) (hq : pc + 1 = q) (hv : Int64.ofNat (z : Nat) = v) (kk : V E Γ k n q L (.long v :: st) w) : V E Γ k n pc L (st) w := by
  obtain ⟨p, e, R, s, m, args, below, meth, c, Q⟩ := Γ
  obtain ⟨hx, hb, hml, hown, hts, hlk, hK, hR, hA0⟩ := h
  subst hq
  intro H locs ls hP hS hl
  exact lv_lconst hx hb hd hv (kk H locs ls hP hS hl)
theorem v_dconst0 (h : OkB E Γ M own) (pc q : Nat)  (hd : decode (mC M) pc = .ok (.dconst 0, 1)) (hq : pc + 1 = q)  (kk : V E Γ k n q L (.double 0 :: st) w) : V E Γ k n pc L (st) w := by
  obtain ⟨p, e, R, s, m, args, below, meth, c, Q⟩ := Γ
  obtain ⟨hx, hb, hml, hown, hts, hlk, hK, hR, hA0⟩ := h
  subst hq
  intro H locs ls hP hS hl
  exact lv_dconst0 hx hb hd (kk H locs ls hP hS hl)
theorem v_null (h : OkB E Γ M own) (pc q : Nat)  (hd : decode (mC M) pc = .ok (.aconst_null, 1)) (hq : pc + 1 = q)  (kk : V E Γ k n q L (.null :: st) w) : V E Γ k n pc L (st) w := by
  obtain ⟨p, e, R, s, m, args, below, meth, c, Q⟩ := Γ
  obtain ⟨hx, hb, hml, hown, hts, hlk, hK, hR, hA0⟩ := h
  subst hq
  intro H locs ls hP hS hl
  exact lv_null hx hb hd (kk H locs ls hP hS hl)
theorem v_iload_n (h : OkB E Γ M own) (pc q : Nat) {kf : Fin 4} {i : Nat} {x : Int32} (hd : decode (mC M) pc = .ok (.iload_n kf, 1)) (hq : pc + 1 = q) (hi : (kf : Nat) = i) (hg : L[i]? = some (some (.int x))) (kk : V E Γ k n q L (.int x :: st) w) : V E Γ k n pc L (st) w := by
  obtain ⟨p, e, R, s, m, args, below, meth, c, Q⟩ := Γ
  obtain ⟨hx, hb, hml, hown, hts, hlk, hK, hR, hA0⟩ := h
  subst hq
  intro H locs ls hP hS hl
  exact lv_iload_n hx hb hd hi (hl.2.2 _ _ hg) (kk H locs ls hP hS hl)
theorem v_iload (h : OkB E Γ M own) (pc q : Nat) {i : Nat} {x : Int32} (hd : decode (mC M) pc = .ok (.iload i, 2)) (hq : pc + 2 = q) (hg : L[i]? = some (some (.int x))) (kk : V E Γ k n q L (.int x :: st) w) : V E Γ k n pc L (st) w := by
  obtain ⟨p, e, R, s, m, args, below, meth, c, Q⟩ := Γ
  obtain ⟨hx, hb, hml, hown, hts, hlk, hK, hR, hA0⟩ := h
  subst hq
  intro H locs ls hP hS hl
  exact lv_iload hx hb hd (hl.2.2 _ _ hg) (kk H locs ls hP hS hl)
theorem v_lload_n (h : OkB E Γ M own) (pc q : Nat) {kf : Fin 4} {i : Nat} {x : Int64} (hd : decode (mC M) pc = .ok (.lload_n kf, 1)) (hq : pc + 1 = q) (hi : (kf : Nat) = i) (hg : L[i]? = some (some (.long x))) (kk : V E Γ k n q L (.long x :: st) w) : V E Γ k n pc L (st) w := by
  obtain ⟨p, e, R, s, m, args, below, meth, c, Q⟩ := Γ
  obtain ⟨hx, hb, hml, hown, hts, hlk, hK, hR, hA0⟩ := h
  subst hq
  intro H locs ls hP hS hl
  exact lv_lload_n hx hb hd hi (hl.2.2 _ _ hg) (kk H locs ls hP hS hl)
theorem v_lload (h : OkB E Γ M own) (pc q : Nat) {i : Nat} {x : Int64} (hd : decode (mC M) pc = .ok (.lload i, 2)) (hq : pc + 2 = q) (hg : L[i]? = some (some (.long x))) (kk : V E Γ k n q L (.long x :: st) w) : V E Γ k n pc L (st) w := by
  obtain ⟨p, e, R, s, m, args, below, meth, c, Q⟩ := Γ
  obtain ⟨hx, hb, hml, hown, hts, hlk, hK, hR, hA0⟩ := h
  subst hq
  intro H locs ls hP hS hl
  exact lv_lload hx hb hd (hl.2.2 _ _ hg) (kk H locs ls hP hS hl)
theorem v_dload_n (h : OkB E Γ M own) (pc q : Nat) {kf : Fin 4} {i : Nat} {x : UInt64} (hd : decode (mC M) pc = .ok (.dload_n kf, 1)) (hq : pc + 1 = q) (hi : (kf : Nat) = i) (hg : L[i]? = some (some (.double x))) (kk : V E Γ k n q L (.double x :: st) w) : V E Γ k n pc L (st) w := by
  obtain ⟨p, e, R, s, m, args, below, meth, c, Q⟩ := Γ
  obtain ⟨hx, hb, hml, hown, hts, hlk, hK, hR, hA0⟩ := h
  subst hq
  intro H locs ls hP hS hl
  exact lv_dload_n hx hb hd hi (hl.2.2 _ _ hg) (kk H locs ls hP hS hl)
theorem v_dload (h : OkB E Γ M own) (pc q : Nat) {i : Nat} {x : UInt64} (hd : decode (mC M) pc = .ok (.dload i, 2)) (hq : pc + 2 = q) (hg : L[i]? = some (some (.double x))) (kk : V E Γ k n q L (.double x :: st) w) : V E Γ k n pc L (st) w := by
  obtain ⟨p, e, R, s, m, args, below, meth, c, Q⟩ := Γ
  obtain ⟨hx, hb, hml, hown, hts, hlk, hK, hR, hA0⟩ := h
  subst hq
  intro H locs ls hP hS hl
  exact lv_dload hx hb hd (hl.2.2 _ _ hg) (kk H locs ls hP hS hl)
theorem v_aload_n (h : OkB E Γ M own) (pc q : Nat) {kf : Fin 4} {i : Nat} {x : Nat} (hd : decode (mC M) pc = .ok (.aload_n kf, 1)) (hq : pc + 1 = q) (hi : (kf : Nat) = i) (hg : L[i]? = some (some (.ref x))) (kk : V E Γ k n q L (.ref x :: st) w) : V E Γ k n pc L (st) w := by
  obtain ⟨p, e, R, s, m, args, below, meth, c, Q⟩ := Γ
  obtain ⟨hx, hb, hml, hown, hts, hlk, hK, hR, hA0⟩ := h
  subst hq
  intro H locs ls hP hS hl
  exact lv_aload_n hx hb hd hi (hl.2.2 _ _ hg) (kk H locs ls hP hS hl)
theorem v_aload (h : OkB E Γ M own) (pc q : Nat) {i : Nat} {x : Nat} (hd : decode (mC M) pc = .ok (.aload i, 2)) (hq : pc + 2 = q) (hg : L[i]? = some (some (.ref x))) (kk : V E Γ k n q L (.ref x :: st) w) : V E Γ k n pc L (st) w := by
  obtain ⟨p, e, R, s, m, args, below, meth, c, Q⟩ := Γ
  obtain ⟨hx, hb, hml, hown, hts, hlk, hK, hR, hA0⟩ := h
  subst hq
  intro H locs ls hP hS hl
  exact lv_aload hx hb hd (hl.2.2 _ _ hg) (kk H locs ls hP hS hl)
theorem v_aload_nN (h : OkB E Γ M own) (pc q : Nat) {kf : Fin 4} {i : Nat} (hd : decode (mC M) pc = .ok (.aload_n kf, 1)) (hq : pc + 1 = q) (hi : (kf : Nat) = i) (hg : L[i]? = some (some .null)) (kk : V E Γ k n q L (.null :: st) w) : V E Γ k n pc L (st) w := by
  obtain ⟨p, e, R, s, m, args, below, meth, c, Q⟩ := Γ
  obtain ⟨hx, hb, hml, hown, hts, hlk, hK, hR, hA0⟩ := h
  subst hq
  intro H locs ls hP hS hl
  exact lv_aload_nN hx hb hd hi (hl.2.2 _ _ hg) (kk H locs ls hP hS hl)
theorem v_aloadN (h : OkB E Γ M own) (pc q : Nat) {i : Nat} (hd : decode (mC M) pc = .ok (.aload i, 2)) (hq : pc + 2 = q) (hg : L[i]? = some (some .null)) (kk : V E Γ k n q L (.null :: st) w) : V E Γ k n pc L (st) w := by
  obtain ⟨p, e, R, s, m, args, below, meth, c, Q⟩ := Γ
  obtain ⟨hx, hb, hml, hown, hts, hlk, hK, hR, hA0⟩ := h
  subst hq
  intro H locs ls hP hS hl
  exact lv_aloadN hx hb hd (hl.2.2 _ _ hg) (kk H locs ls hP hS hl)
theorem v_istore_n (h : OkB E Γ M own) (pc q : Nat) {kf : Fin 4} {i : Nat} {x : Int32} {L' : Lo} (hd : decode (mC M) pc = .ok (.istore_n kf, 1)) (hq : pc + 1 = q) (hi : (kf : Nat) = i) (hn : i < mL M) (hL : stOK L i (.int x) L') (kk : V E Γ k n q L' st w) : V E Γ k n pc L (.int x :: st) w := by
  obtain ⟨p, e, R, s, m, args, below, meth, c, Q⟩ := Γ
  obtain ⟨hx, hb, hml, hown, hts, hlk, hK, hR, hA0⟩ := h
  subst hq
  intro H locs ls hP hS hl
  subst hi
  obtain ⟨ls', e', h'⟩ := lh_store1 hl (by rw [hml]; exact hn) rfl hL
  intro T hT X
  obtain ⟨t, a, b⟩ := kk H locs ls' hP hS h' T hT X
  refine ⟨t, ?_, b⟩
  jvm_step X.here [X.here.top, ↓top_set X.here.top, hx, hb, hd, e']
  exact a
theorem v_istore (h : OkB E Γ M own) (pc q : Nat) {i : Nat} {x : Int32} {L' : Lo} (hd : decode (mC M) pc = .ok (.istore i, 2)) (hq : pc + 2 = q) (hn : i < mL M) (hL : stOK L i (.int x) L') (kk : V E Γ k n q L' st w) : V E Γ k n pc L (.int x :: st) w := by
  obtain ⟨p, e, R, s, m, args, below, meth, c, Q⟩ := Γ
  obtain ⟨hx, hb, hml, hown, hts, hlk, hK, hR, hA0⟩ := h
  subst hq
  intro H locs ls hP hS hl
  obtain ⟨ls', e', h'⟩ := lh_store1 hl (by rw [hml]; exact hn) rfl hL
  intro T hT X
  obtain ⟨t, a, b⟩ := kk H locs ls' hP hS h' T hT X
  refine ⟨t, ?_, b⟩
  jvm_step X.here [X.here.top, ↓top_set X.here.top, hx, hb, hd, e']
  exact a
theorem v_lstore_n (h : OkB E Γ M own) (pc q : Nat) {kf : Fin 4} {i : Nat} {x : Int64} {L' : Lo} (hd : decode (mC M) pc = .ok (.lstore_n kf, 1)) (hq : pc + 1 = q) (hi : (kf : Nat) = i) (hn : i + 1 < mL M) (hL : stOK2 L i (.long x) L') (kk : V E Γ k n q L' st w) : V E Γ k n pc L (.long x :: st) w := by
  obtain ⟨p, e, R, s, m, args, below, meth, c, Q⟩ := Γ
  obtain ⟨hx, hb, hml, hown, hts, hlk, hK, hR, hA0⟩ := h
  subst hq
  intro H locs ls hP hS hl
  subst hi
  obtain ⟨ls', e', h'⟩ := lh_store2 hl (by rw [hml]; exact hn) rfl hL
  intro T hT X
  obtain ⟨t, a, b⟩ := kk H locs ls' hP hS h' T hT X
  refine ⟨t, ?_, b⟩
  jvm_step X.here [X.here.top, ↓top_set X.here.top, hx, hb, hd, e']
  exact a
theorem v_lstore (h : OkB E Γ M own) (pc q : Nat) {i : Nat} {x : Int64} {L' : Lo} (hd : decode (mC M) pc = .ok (.lstore i, 2)) (hq : pc + 2 = q) (hn : i + 1 < mL M) (hL : stOK2 L i (.long x) L') (kk : V E Γ k n q L' st w) : V E Γ k n pc L (.long x :: st) w := by
  obtain ⟨p, e, R, s, m, args, below, meth, c, Q⟩ := Γ
  obtain ⟨hx, hb, hml, hown, hts, hlk, hK, hR, hA0⟩ := h
  subst hq
  intro H locs ls hP hS hl
  obtain ⟨ls', e', h'⟩ := lh_store2 hl (by rw [hml]; exact hn) rfl hL
  intro T hT X
  obtain ⟨t, a, b⟩ := kk H locs ls' hP hS h' T hT X
  refine ⟨t, ?_, b⟩
  jvm_step X.here [X.here.top, ↓top_set X.here.top, hx, hb, hd, e']
  exact a
theorem v_dstore_n (h : OkB E Γ M own) (pc q : Nat) {kf : Fin 4} {i : Nat} {x : UInt64} {L' : Lo} (hd : decode (mC M) pc = .ok (.dstore_n kf, 1)) (hq : pc + 1 = q) (hi : (kf : Nat) = i) (hn : i + 1 < mL M) (hL : stOK2 L i (.double x) L') (kk : V E Γ k n q L' st w) : V E Γ k n pc L (.double x :: st) w := by
  obtain ⟨p, e, R, s, m, args, below, meth, c, Q⟩ := Γ
  obtain ⟨hx, hb, hml, hown, hts, hlk, hK, hR, hA0⟩ := h
  subst hq
  intro H locs ls hP hS hl
  subst hi
  obtain ⟨ls', e', h'⟩ := lh_store2 hl (by rw [hml]; exact hn) rfl hL
  intro T hT X
  obtain ⟨t, a, b⟩ := kk H locs ls' hP hS h' T hT X
  refine ⟨t, ?_, b⟩
  jvm_step X.here [X.here.top, ↓top_set X.here.top, hx, hb, hd, e']
  exact a
theorem v_dstore (h : OkB E Γ M own) (pc q : Nat) {i : Nat} {x : UInt64} {L' : Lo} (hd : decode (mC M) pc = .ok (.dstore i, 2)) (hq : pc + 2 = q) (hn : i + 1 < mL M) (hL : stOK2 L i (.double x) L') (kk : V E Γ k n q L' st w) : V E Γ k n pc L (.double x :: st) w := by
  obtain ⟨p, e, R, s, m, args, below, meth, c, Q⟩ := Γ
  obtain ⟨hx, hb, hml, hown, hts, hlk, hK, hR, hA0⟩ := h
  subst hq
  intro H locs ls hP hS hl
  obtain ⟨ls', e', h'⟩ := lh_store2 hl (by rw [hml]; exact hn) rfl hL
  intro T hT X
  obtain ⟨t, a, b⟩ := kk H locs ls' hP hS h' T hT X
  refine ⟨t, ?_, b⟩
  jvm_step X.here [X.here.top, ↓top_set X.here.top, hx, hb, hd, e']
  exact a
theorem v_astore_n (h : OkB E Γ M own) (pc q : Nat) {kf : Fin 4} {i : Nat} {x : Nat} {L' : Lo} (hd : decode (mC M) pc = .ok (.astore_n kf, 1)) (hq : pc + 1 = q) (hi : (kf : Nat) = i) (hn : i < mL M) (hL : stOK L i (.ref x) L') (kk : V E Γ k n q L' st w) : V E Γ k n pc L (.ref x :: st) w := by
  obtain ⟨p, e, R, s, m, args, below, meth, c, Q⟩ := Γ
  obtain ⟨hx, hb, hml, hown, hts, hlk, hK, hR, hA0⟩ := h
  subst hq
  intro H locs ls hP hS hl
  subst hi
  obtain ⟨ls', e', h'⟩ := lh_store1 hl (by rw [hml]; exact hn) rfl hL
  intro T hT X
  obtain ⟨t, a, b⟩ := kk H locs ls' hP hS h' T hT X
  refine ⟨t, ?_, b⟩
  jvm_step X.here [X.here.top, ↓top_set X.here.top, hx, hb, hd, e', Value.isRef]
  exact a
theorem v_astore (h : OkB E Γ M own) (pc q : Nat) {i : Nat} {x : Nat} {L' : Lo} (hd : decode (mC M) pc = .ok (.astore i, 2)) (hq : pc + 2 = q) (hn : i < mL M) (hL : stOK L i (.ref x) L') (kk : V E Γ k n q L' st w) : V E Γ k n pc L (.ref x :: st) w := by
  obtain ⟨p, e, R, s, m, args, below, meth, c, Q⟩ := Γ
  obtain ⟨hx, hb, hml, hown, hts, hlk, hK, hR, hA0⟩ := h
  subst hq
  intro H locs ls hP hS hl
  obtain ⟨ls', e', h'⟩ := lh_store1 hl (by rw [hml]; exact hn) rfl hL
  intro T hT X
  obtain ⟨t, a, b⟩ := kk H locs ls' hP hS h' T hT X
  refine ⟨t, ?_, b⟩
  jvm_step X.here [X.here.top, ↓top_set X.here.top, hx, hb, hd, e', Value.isRef]
  exact a
theorem v_astore_nN (h : OkB E Γ M own) (pc q : Nat) {kf : Fin 4} {i : Nat} {L' : Lo} (hd : decode (mC M) pc = .ok (.astore_n kf, 1)) (hq : pc + 1 = q) (hi : (kf : Nat) = i) (hn : i < mL M) (hL : stOK L i (.null) L') (kk : V E Γ k n q L' st w) : V E Γ k n pc L (.null :: st) w := by
  obtain ⟨p, e, R, s, m, args, below, meth, c, Q⟩ := Γ
  obtain ⟨hx, hb, hml, hown, hts, hlk, hK, hR, hA0⟩ := h
  subst hq
  intro H locs ls hP hS hl
  subst hi
  obtain ⟨ls', e', h'⟩ := lh_store1 hl (by rw [hml]; exact hn) rfl hL
  intro T hT X
  obtain ⟨t, a, b⟩ := kk H locs ls' hP hS h' T hT X
  refine ⟨t, ?_, b⟩
  jvm_step X.here [X.here.top, ↓top_set X.here.top, hx, hb, hd, e', Value.isRef]
  exact a
theorem v_astoreN (h : OkB E Γ M own) (pc q : Nat) {i : Nat} {L' : Lo} (hd : decode (mC M) pc = .ok (.astore i, 2)) (hq : pc + 2 = q) (hn : i < mL M) (hL : stOK L i (.null) L') (kk : V E Γ k n q L' st w) : V E Γ k n pc L (.null :: st) w := by
  obtain ⟨p, e, R, s, m, args, below, meth, c, Q⟩ := Γ
  obtain ⟨hx, hb, hml, hown, hts, hlk, hK, hR, hA0⟩ := h
  subst hq
  intro H locs ls hP hS hl
  obtain ⟨ls', e', h'⟩ := lh_store1 hl (by rw [hml]; exact hn) rfl hL
  intro T hT X
  obtain ⟨t, a, b⟩ := kk H locs ls' hP hS h' T hT X
  refine ⟨t, ?_, b⟩
  jvm_step X.here [X.here.top, ↓top_set X.here.top, hx, hb, hd, e', Value.isRef]
  exact a
theorem v_iinc (h : OkB E Γ M own) (pc q : Nat) {i : Nat} {z : Int} {x v : Int32} {L' : Lo} (hd : decode (mC M) pc = .ok (.iinc i z, 3)) (hq : pc + 3 = q) (hg : L[i]? = some (some (.int x))) (hv : x + Int32.ofInt z = v) (hn : i < mL M) (hL : stOK L i (.int v) L') (kk : V E Γ k n q L' st w) : V E Γ k n pc L st w := by
  obtain ⟨p, e, R, s, m, args, below, meth, c, Q⟩ := Γ
  obtain ⟨hx, hb, hml, hown, hts, hlk, hK, hR, hA0⟩ := h
  subst hq
  intro H locs ls hP hS hl
  subst hv
  have hg2 := hl.2.2 _ _ hg
  obtain ⟨ls', e', h'⟩ := lh_store1 hl (by rw [hml]; exact hn) rfl hL
  intro T hT X
  obtain ⟨t, a, b⟩ := kk H locs ls' hP hS h' T hT X
  refine ⟨t, ?_, b⟩
  jvm_step X.here [X.here.top, ↓top_set X.here.top, hx, hb, hd, hg2, e']
  exact a
theorem v_iadd (h : OkB E Γ M own) (pc q : Nat) {x y : Int32} (hd : decode (mC M) pc = .ok (.iadd, 1)) (hq : pc + 1 = q)  (kk : V E Γ k n q L (.int (x + y) :: st) w) : V E Γ k n pc L (.int y :: .int x :: st) w := by
  obtain ⟨p, e, R, s, m, args, below, meth, c, Q⟩ := Γ
  obtain ⟨hx, hb, hml, hown, hts, hlk, hK, hR, hA0⟩ := h
  subst hq
  intro H locs ls hP hS hl
  exact lv_iadd hx hb hd (kk H locs ls hP hS hl)
theorem v_isub (h : OkB E Γ M own) (pc q : Nat) {x y : Int32} (hd : decode (mC M) pc = .ok (.isub, 1)) (hq : pc + 1 = q)  (kk : V E Γ k n q L (.int (x - y) :: st) w) : V E Γ k n pc L (.int y :: .int x :: st) w := by
  obtain ⟨p, e, R, s, m, args, below, meth, c, Q⟩ := Γ
  obtain ⟨hx, hb, hml, hown, hts, hlk, hK, hR, hA0⟩ := h
  subst hq
  intro H locs ls hP hS hl
  exact lv_isub hx hb hd (kk H locs ls hP hS hl)
theorem v_imul (h : OkB E Γ M own) (pc q : Nat) {x y : Int32} (hd : decode (mC M) pc = .ok (.imul, 1)) (hq : pc + 1 = q)  (kk : V E Γ k n q L (.int (x * y) :: st) w) : V E Γ k n pc L (.int y :: .int x :: st) w := by
  obtain ⟨p, e, R, s, m, args, below, meth, c, Q⟩ := Γ
  obtain ⟨hx, hb, hml, hown, hts, hlk, hK, hR, hA0⟩ := h
  subst hq
  intro H locs ls hP hS hl
  exact lv_imul hx hb hd (kk H locs ls hP hS hl)
theorem v_iand (h : OkB E Γ M own) (pc q : Nat) {x y : Int32} (hd : decode (mC M) pc = .ok (.iand, 1)) (hq : pc + 1 = q)  (kk : V E Γ k n q L (.int (x &&& y) :: st) w) : V E Γ k n pc L (.int y :: .int x :: st) w := by
  obtain ⟨p, e, R, s, m, args, below, meth, c, Q⟩ := Γ
  obtain ⟨hx, hb, hml, hown, hts, hlk, hK, hR, hA0⟩ := h
  subst hq
  intro H locs ls hP hS hl
  exact lv_iand hx hb hd (kk H locs ls hP hS hl)
theorem v_ixor (h : OkB E Γ M own) (pc q : Nat) {x y : Int32} (hd : decode (mC M) pc = .ok (.ixor, 1)) (hq : pc + 1 = q)  (kk : V E Γ k n q L (.int (x ^^^ y) :: st) w) : V E Γ k n pc L (.int y :: .int x :: st) w := by
  obtain ⟨p, e, R, s, m, args, below, meth, c, Q⟩ := Γ
  obtain ⟨hx, hb, hml, hown, hts, hlk, hK, hR, hA0⟩ := h
  subst hq
  intro H locs ls hP hS hl
  exact lv_ixor hx hb hd (kk H locs ls hP hS hl)
theorem v_ishr (h : OkB E Γ M own) (pc q : Nat) {x y : Int32} (hd : decode (mC M) pc = .ok (.ishr, 1)) (hq : pc + 1 = q)  (kk : V E Γ k n q L (.int (x >>> (y &&& 31)) :: st) w) : V E Γ k n pc L (.int y :: .int x :: st) w := by
  obtain ⟨p, e, R, s, m, args, below, meth, c, Q⟩ := Γ
  obtain ⟨hx, hb, hml, hown, hts, hlk, hK, hR, hA0⟩ := h
  subst hq
  intro H locs ls hP hS hl
  exact lv_ishr hx hb hd (kk H locs ls hP hS hl)
theorem v_idiv (h : OkB E Γ M own) (pc q : Nat) {x y : Int32} (hd : decode (mC M) pc = .ok (.idiv, 1)) (hq : pc + 1 = q) (hne : ¬ y = 0) (kk : V E Γ k n q L (.int (x / y) :: st) w) : V E Γ k n pc L (.int y :: .int x :: st) w := by
  obtain ⟨p, e, R, s, m, args, below, meth, c, Q⟩ := Γ
  obtain ⟨hx, hb, hml, hown, hts, hlk, hK, hR, hA0⟩ := h
  subst hq
  intro H locs ls hP hS hl
  exact lv_idiv hx hb hd hne (kk H locs ls hP hS hl)
theorem v_irem (h : OkB E Γ M own) (pc q : Nat) {x y : Int32} (hd : decode (mC M) pc = .ok (.irem, 1)) (hq : pc + 1 = q) (hne : ¬ y = 0) (kk : V E Γ k n q L (.int (x - x / y * y) :: st) w) : V E Γ k n pc L (.int y :: .int x :: st) w := by
  obtain ⟨p, e, R, s, m, args, below, meth, c, Q⟩ := Γ
  obtain ⟨hx, hb, hml, hown, hts, hlk, hK, hR, hA0⟩ := h
  subst hq
  intro H locs ls hP hS hl
  exact lv_irem hx hb hd hne (kk H locs ls hP hS hl)
theorem v_ineg (h : OkB E Γ M own) (pc q : Nat) {x : Int32} (hd : decode (mC M) pc = .ok (.ineg, 1)) (hq : pc + 1 = q)  (kk : V E Γ k n q L (.int (-x) :: st) w) : V E Γ k n pc L (.int x :: st) w := by
  obtain ⟨p, e, R, s, m, args, below, meth, c, Q⟩ := Γ
  obtain ⟨hx, hb, hml, hown, hts, hlk, hK, hR, hA0⟩ := h
  subst hq
  intro H locs ls hP hS hl
  exact lv_ineg hx hb hd (kk H locs ls hP hS hl)
theorem v_ladd (h : OkB E Γ M own) (pc q : Nat) {x y : Int64} (hd : decode (mC M) pc = .ok (.ladd, 1)) (hq : pc + 1 = q)  (kk : V E Γ k n q L (.long (x + y) :: st) w) : V E Γ k n pc L (.long y :: .long x :: st) w := by
  obtain ⟨p, e, R, s, m, args, below, meth, c, Q⟩ := Γ
  obtain ⟨hx, hb, hml, hown, hts, hlk, hK, hR, hA0⟩ := h
  subst hq
  intro H locs ls hP hS hl
  exact lv_ladd hx hb hd (kk H locs ls hP hS hl)
theorem v_lmul (h : OkB E Γ M own) (pc q : Nat) {x y : Int64} (hd : decode (mC M) pc = .ok (.lmul, 1)) (hq : pc + 1 = q)  (kk : V E Γ k n q L (.long (x * y) :: st) w) : V E Γ k n pc L (.long y :: .long x :: st) w := by
  obtain ⟨p, e, R, s, m, args, below, meth, c, Q⟩ := Γ
  obtain ⟨hx, hb, hml, hown, hts, hlk, hK, hR, hA0⟩ := h
  subst hq
  intro H locs ls hP hS hl
  exact lv_lmul hx hb hd (kk H locs ls hP hS hl)
theorem v_i2l (h : OkB E Γ M own) (pc q : Nat) {x : Int32} {v : Int64} (hd : decode (mC M) pc = .ok (.i2l, 1)) (hq : pc + 1 = q) (hv : x.toInt64 = v) (kk : V E Γ k n q L (.long v :: st) w) : V E Γ k n pc L (.int x :: st) w := by
  obtain ⟨p, e, R, s, m, args, below, meth, c, Q⟩ := Γ
  obtain ⟨hx, hb, hml, hown, hts, hlk, hK, hR, hA0⟩ := h
  subst hq
  intro H locs ls hP hS hl
  exact lv_i2l hx hb hd hv (kk H locs ls hP hS hl)
theorem v_i2d (h : OkB E Γ M own) (pc q : Nat) {x : Int32} (hd : decode (mC M) pc = .ok (.i2d, 1)) (hq : pc + 1 = q)  (kk : V E Γ k n q L (.double (FP.i2d x) :: st) w) : V E Γ k n pc L (.int x :: st) w := by
  obtain ⟨p, e, R, s, m, args, below, meth, c, Q⟩ := Γ
  obtain ⟨hx, hb, hml, hown, hts, hlk, hK, hR, hA0⟩ := h
  subst hq
  intro H locs ls hP hS hl
  exact lv_i2d hx hb hd (kk H locs ls hP hS hl)
theorem v_ddiv (h : OkB E Γ M own) (pc q : Nat) {x y : UInt64} (hd : decode (mC M) pc = .ok (.ddiv, 1)) (hq : pc + 1 = q) (hne : vf_n64 (FP.ddiv x y)) (kk : V E Γ k n q L (.double (FP.ddiv x y) :: st) w) : V E Γ k n pc L (.double y :: .double x :: st) w := by
  obtain ⟨p, e, R, s, m, args, below, meth, c, Q⟩ := Γ
  obtain ⟨hx, hb, hml, hown, hts, hlk, hK, hR, hA0⟩ := h
  subst hq
  intro H locs ls hP hS hl
  exact lv_ddiv hx hb hd hne (kk H locs ls hP hS hl)
theorem v_dcmp (h : OkB E Γ M own) (pc q : Nat) {x y : UInt64} {op : CmpOp} (hd : decode (mC M) pc = .ok (.dcmp op, 1)) (hq : pc + 1 = q)  (kk : V E Γ k n q L (.int (Op.cmpValue (FP.dcmp x y) op) :: st) w) : V E Γ k n pc L (.double y :: .double x :: st) w := by
  obtain ⟨p, e, R, s, m, args, below, meth, c, Q⟩ := Γ
  obtain ⟨hx, hb, hml, hown, hts, hlk, hK, hR, hA0⟩ := h
  subst hq
  intro H locs ls hP hS hl
  exact lv_dcmp hx hb hd (kk H locs ls hP hS hl)
theorem v_dup (h : OkB E Γ M own) (pc q : Nat) {va : Value} (hd : decode (mC M) pc = .ok (.dup, 1)) (hq : pc + 1 = q) (hc : va.category = 1) (kk : V E Γ k n q L (va :: va :: st) w) : V E Γ k n pc L (va :: st) w := by
  obtain ⟨p, e, R, s, m, args, below, meth, c, Q⟩ := Γ
  obtain ⟨hx, hb, hml, hown, hts, hlk, hK, hR, hA0⟩ := h
  subst hq
  intro H locs ls hP hS hl
  exact lv_dup hx hb hd hc (kk H locs ls hP hS hl)
theorem v_pop (h : OkB E Γ M own) (pc q : Nat) {va : Value} (hd : decode (mC M) pc = .ok (.pop, 1)) (hq : pc + 1 = q) (hc : va.category = 1) (kk : V E Γ k n q L (st) w) : V E Γ k n pc L (va :: st) w := by
  obtain ⟨p, e, R, s, m, args, below, meth, c, Q⟩ := Γ
  obtain ⟨hx, hb, hml, hown, hts, hlk, hK, hR, hA0⟩ := h
  subst hq
  intro H locs ls hP hS hl
  exact lv_pop hx hb hd hc (kk H locs ls hP hS hl)
theorem v_dup2 (h : OkB E Γ M own) (pc q : Nat) {va vb : Value} (hd : decode (mC M) pc = .ok (.dup2, 1)) (hq : pc + 1 = q) (hc : va.category = 1) (hc2 : vb.category = 1) (kk : V E Γ k n q L (va :: vb :: va :: vb :: st) w) : V E Γ k n pc L (va :: vb :: st) w := by
  obtain ⟨p, e, R, s, m, args, below, meth, c, Q⟩ := Γ
  obtain ⟨hx, hb, hml, hown, hts, hlk, hK, hR, hA0⟩ := h
  subst hq
  intro H locs ls hP hS hl
  exact lv_dup2_11 hx hb hd hc hc2 (kk H locs ls hP hS hl)
theorem v_if_eq (h : OkB E Γ M own) (pc q tgt : Nat) {x : Int32} {off : Int} (hd : decode (mC M) pc = .ok (.ifCond .eq off, 3)) (hq : pc + 3 = q) (ht : (pc : Int) + off = (tgt : Int)) (kt : x = 0 → V E Γ k n tgt L st w) (kf : ¬ x = 0 → V E Γ k n q L st w) : V E Γ k n pc L (.int x :: st) w := by
  obtain ⟨p, e, R, s, m, args, below, meth, c, Q⟩ := Γ
  obtain ⟨hx, hb, hml, hown, hts, hlk, hK, hR, hA0⟩ := h
  subst hq
  intro H locs ls hP hS hl
  exact lv_if_eq hx hb hd ht (fun c => kt c H locs ls hP hS hl) (fun c => kf c H locs ls hP hS hl)
theorem v_icmp_eq (h : OkB E Γ M own) (pc q tgt : Nat) {x y : Int32} {off : Int} (hd : decode (mC M) pc = .ok (.if_icmp .eq off, 3)) (hq : pc + 3 = q) (ht : (pc : Int) + off = (tgt : Int)) (kt : x = y → V E Γ k n tgt L st w) (kf : ¬ x = y → V E Γ k n q L st w) : V E Γ k n pc L (.int y :: .int x :: st) w := by
  obtain ⟨p, e, R, s, m, args, below, meth, c, Q⟩ := Γ
  obtain ⟨hx, hb, hml, hown, hts, hlk, hK, hR, hA0⟩ := h
  subst hq
  intro H locs ls hP hS hl
  exact lv_icmp_eq hx hb hd ht (fun c => kt c H locs ls hP hS hl) (fun c => kf c H locs ls hP hS hl)
theorem v_if_ne (h : OkB E Γ M own) (pc q tgt : Nat) {x : Int32} {off : Int} (hd : decode (mC M) pc = .ok (.ifCond .ne off, 3)) (hq : pc + 3 = q) (ht : (pc : Int) + off = (tgt : Int)) (kt : ¬ x = 0 → V E Γ k n tgt L st w) (kf : x = 0 → V E Γ k n q L st w) : V E Γ k n pc L (.int x :: st) w := by
  obtain ⟨p, e, R, s, m, args, below, meth, c, Q⟩ := Γ
  obtain ⟨hx, hb, hml, hown, hts, hlk, hK, hR, hA0⟩ := h
  subst hq
  intro H locs ls hP hS hl
  exact lv_if_ne hx hb hd ht (fun c => kt c H locs ls hP hS hl) (fun c => kf c H locs ls hP hS hl)
theorem v_icmp_ne (h : OkB E Γ M own) (pc q tgt : Nat) {x y : Int32} {off : Int} (hd : decode (mC M) pc = .ok (.if_icmp .ne off, 3)) (hq : pc + 3 = q) (ht : (pc : Int) + off = (tgt : Int)) (kt : ¬ x = y → V E Γ k n tgt L st w) (kf : x = y → V E Γ k n q L st w) : V E Γ k n pc L (.int y :: .int x :: st) w := by
  obtain ⟨p, e, R, s, m, args, below, meth, c, Q⟩ := Γ
  obtain ⟨hx, hb, hml, hown, hts, hlk, hK, hR, hA0⟩ := h
  subst hq
  intro H locs ls hP hS hl
  exact lv_icmp_ne hx hb hd ht (fun c => kt c H locs ls hP hS hl) (fun c => kf c H locs ls hP hS hl)
theorem v_if_lt (h : OkB E Γ M own) (pc q tgt : Nat) {x : Int32} {off : Int} (hd : decode (mC M) pc = .ok (.ifCond .lt off, 3)) (hq : pc + 3 = q) (ht : (pc : Int) + off = (tgt : Int)) (kt : x < 0 → V E Γ k n tgt L st w) (kf : ¬ x < 0 → V E Γ k n q L st w) : V E Γ k n pc L (.int x :: st) w := by
  obtain ⟨p, e, R, s, m, args, below, meth, c, Q⟩ := Γ
  obtain ⟨hx, hb, hml, hown, hts, hlk, hK, hR, hA0⟩ := h
  subst hq
  intro H locs ls hP hS hl
  exact lv_if_lt hx hb hd ht (fun c => kt c H locs ls hP hS hl) (fun c => kf c H locs ls hP hS hl)
theorem v_icmp_lt (h : OkB E Γ M own) (pc q tgt : Nat) {x y : Int32} {off : Int} (hd : decode (mC M) pc = .ok (.if_icmp .lt off, 3)) (hq : pc + 3 = q) (ht : (pc : Int) + off = (tgt : Int)) (kt : x < y → V E Γ k n tgt L st w) (kf : ¬ x < y → V E Γ k n q L st w) : V E Γ k n pc L (.int y :: .int x :: st) w := by
  obtain ⟨p, e, R, s, m, args, below, meth, c, Q⟩ := Γ
  obtain ⟨hx, hb, hml, hown, hts, hlk, hK, hR, hA0⟩ := h
  subst hq
  intro H locs ls hP hS hl
  exact lv_icmp_lt hx hb hd ht (fun c => kt c H locs ls hP hS hl) (fun c => kf c H locs ls hP hS hl)
theorem v_if_ge (h : OkB E Γ M own) (pc q tgt : Nat) {x : Int32} {off : Int} (hd : decode (mC M) pc = .ok (.ifCond .ge off, 3)) (hq : pc + 3 = q) (ht : (pc : Int) + off = (tgt : Int)) (kt : 0 ≤ x → V E Γ k n tgt L st w) (kf : ¬ 0 ≤ x → V E Γ k n q L st w) : V E Γ k n pc L (.int x :: st) w := by
  obtain ⟨p, e, R, s, m, args, below, meth, c, Q⟩ := Γ
  obtain ⟨hx, hb, hml, hown, hts, hlk, hK, hR, hA0⟩ := h
  subst hq
  intro H locs ls hP hS hl
  exact lv_if_ge hx hb hd ht (fun c => kt c H locs ls hP hS hl) (fun c => kf c H locs ls hP hS hl)
theorem v_icmp_ge (h : OkB E Γ M own) (pc q tgt : Nat) {x y : Int32} {off : Int} (hd : decode (mC M) pc = .ok (.if_icmp .ge off, 3)) (hq : pc + 3 = q) (ht : (pc : Int) + off = (tgt : Int)) (kt : y ≤ x → V E Γ k n tgt L st w) (kf : ¬ y ≤ x → V E Γ k n q L st w) : V E Γ k n pc L (.int y :: .int x :: st) w := by
  obtain ⟨p, e, R, s, m, args, below, meth, c, Q⟩ := Γ
  obtain ⟨hx, hb, hml, hown, hts, hlk, hK, hR, hA0⟩ := h
  subst hq
  intro H locs ls hP hS hl
  exact lv_icmp_ge hx hb hd ht (fun c => kt c H locs ls hP hS hl) (fun c => kf c H locs ls hP hS hl)
theorem v_if_gt (h : OkB E Γ M own) (pc q tgt : Nat) {x : Int32} {off : Int} (hd : decode (mC M) pc = .ok (.ifCond .gt off, 3)) (hq : pc + 3 = q) (ht : (pc : Int) + off = (tgt : Int)) (kt : 0 < x → V E Γ k n tgt L st w) (kf : ¬ 0 < x → V E Γ k n q L st w) : V E Γ k n pc L (.int x :: st) w := by
  obtain ⟨p, e, R, s, m, args, below, meth, c, Q⟩ := Γ
  obtain ⟨hx, hb, hml, hown, hts, hlk, hK, hR, hA0⟩ := h
  subst hq
  intro H locs ls hP hS hl
  exact lv_if_gt hx hb hd ht (fun c => kt c H locs ls hP hS hl) (fun c => kf c H locs ls hP hS hl)
theorem v_icmp_gt (h : OkB E Γ M own) (pc q tgt : Nat) {x y : Int32} {off : Int} (hd : decode (mC M) pc = .ok (.if_icmp .gt off, 3)) (hq : pc + 3 = q) (ht : (pc : Int) + off = (tgt : Int)) (kt : y < x → V E Γ k n tgt L st w) (kf : ¬ y < x → V E Γ k n q L st w) : V E Γ k n pc L (.int y :: .int x :: st) w := by
  obtain ⟨p, e, R, s, m, args, below, meth, c, Q⟩ := Γ
  obtain ⟨hx, hb, hml, hown, hts, hlk, hK, hR, hA0⟩ := h
  subst hq
  intro H locs ls hP hS hl
  exact lv_icmp_gt hx hb hd ht (fun c => kt c H locs ls hP hS hl) (fun c => kf c H locs ls hP hS hl)
theorem v_if_le (h : OkB E Γ M own) (pc q tgt : Nat) {x : Int32} {off : Int} (hd : decode (mC M) pc = .ok (.ifCond .le off, 3)) (hq : pc + 3 = q) (ht : (pc : Int) + off = (tgt : Int)) (kt : x ≤ 0 → V E Γ k n tgt L st w) (kf : ¬ x ≤ 0 → V E Γ k n q L st w) : V E Γ k n pc L (.int x :: st) w := by
  obtain ⟨p, e, R, s, m, args, below, meth, c, Q⟩ := Γ
  obtain ⟨hx, hb, hml, hown, hts, hlk, hK, hR, hA0⟩ := h
  subst hq
  intro H locs ls hP hS hl
  exact lv_if_le hx hb hd ht (fun c => kt c H locs ls hP hS hl) (fun c => kf c H locs ls hP hS hl)
theorem v_icmp_le (h : OkB E Γ M own) (pc q tgt : Nat) {x y : Int32} {off : Int} (hd : decode (mC M) pc = .ok (.if_icmp .le off, 3)) (hq : pc + 3 = q) (ht : (pc : Int) + off = (tgt : Int)) (kt : x ≤ y → V E Γ k n tgt L st w) (kf : ¬ x ≤ y → V E Γ k n q L st w) : V E Γ k n pc L (.int y :: .int x :: st) w := by
  obtain ⟨p, e, R, s, m, args, below, meth, c, Q⟩ := Γ
  obtain ⟨hx, hb, hml, hown, hts, hlk, hK, hR, hA0⟩ := h
  subst hq
  intro H locs ls hP hS hl
  exact lv_icmp_le hx hb hd ht (fun c => kt c H locs ls hP hS hl) (fun c => kf c H locs ls hP hS hl)
theorem v_goto (h : OkB E Γ M own) (pc tgt : Nat) {off : Int} (hd : decode (mC M) pc = .ok (.goto off, 3)) (ht : (pc : Int) + off = (tgt : Int)) (kk : V E Γ k n tgt L st w) : V E Γ k n pc L st w := by
  obtain ⟨p, e, R, s, m, args, below, meth, c, Q⟩ := Γ
  obtain ⟨hx, hb, hml, hown, hts, hlk, hK, hR, hA0⟩ := h
  intro H locs ls hP hS hl
  exact lv_goto hx hb hd ht (kk H locs ls hP hS hl)
theorem v_ifnull (h : OkB E Γ M own) (pc q : Nat) {a : Nat} {off : Int} (hd : decode (mC M) pc = .ok (.ifnull off, 3)) (hq : pc + 3 = q) (kk : V E Γ k n q L st w) : V E Γ k n pc L (.ref a :: st) w := by
  obtain ⟨p, e, R, s, m, args, below, meth, c, Q⟩ := Γ
  obtain ⟨hx, hb, hml, hown, hts, hlk, hK, hR, hA0⟩ := h
  subst hq
  intro H locs ls hP hS hl
  exact lv_ifnull hx hb hd (kk H locs ls hP hS hl)
theorem v_ifnonnull (h : OkB E Γ M own) (pc tgt : Nat) {a : Nat} {off : Int} (hd : decode (mC M) pc = .ok (.ifnonnull off, 3)) (ht : (pc : Int) + off = (tgt : Int)) (kk : V E Γ k n tgt L st w) : V E Γ k n pc L (.ref a :: st) w := by
  obtain ⟨p, e, R, s, m, args, below, meth, c, Q⟩ := Γ
  obtain ⟨hx, hb, hml, hown, hts, hlk, hK, hR, hA0⟩ := h
  intro H locs ls hP hS hl
  exact lv_ifnonnull hx hb hd ht (kk H locs ls hP hS hl)
theorem v_ifnullN (h : OkB E Γ M own) (pc tgt : Nat) {off : Int} (hd : decode (mC M) pc = .ok (.ifnull off, 3)) (ht : (pc : Int) + off = (tgt : Int)) (kk : V E Γ k n tgt L st w) : V E Γ k n pc L (.null :: st) w := by
  obtain ⟨p, e, R, s, m, args, below, meth, c, Q⟩ := Γ
  obtain ⟨hx, hb, hml, hown, hts, hlk, hK, hR, hA0⟩ := h
  intro H locs ls hP hS hl
  exact lv_ifnullN hx hb hd ht (kk H locs ls hP hS hl)
theorem v_ifnonnullN (h : OkB E Γ M own) (pc q : Nat) {off : Int} (hd : decode (mC M) pc = .ok (.ifnonnull off, 3)) (hq : pc + 3 = q) (kk : V E Γ k n q L st w) : V E Γ k n pc L (.null :: st) w := by
  obtain ⟨p, e, R, s, m, args, below, meth, c, Q⟩ := Γ
  obtain ⟨hx, hb, hml, hown, hts, hlk, hK, hR, hA0⟩ := h
  subst hq
  intro H locs ls hP hS hl
  exact lv_ifnonnullN hx hb hd (kk H locs ls hP hS hl)
theorem v_tableIn (h : OkB E Γ M own) (pc tgt : Nat) {dflt lo hi : Int} {offs : Array Int} {len : Nat} {x : Int32} {off : Int} (hd : decode (mC M) pc = .ok (.tableswitch dflt lo hi offs, len)) (h1 : ¬ x.toInt < lo) (h2 : ¬ hi < x.toInt) (ho : offs[(x.toInt - lo).toNat]? = some off) (ht : (pc : Int) + off = (tgt : Int)) (kk : V E Γ k n tgt L st w) : V E Γ k n pc L (.int x :: st) w := by
  obtain ⟨p, e, R, s, m, args, below, meth, c, Q⟩ := Γ
  obtain ⟨hx, hb, hml, hown, hts, hlk, hK, hR, hA0⟩ := h
  intro H locs ls hP hS hl
  exact lv_tableIn hx hb hd h1 h2 ho ht (kk H locs ls hP hS hl)
theorem v_tableOut (h : OkB E Γ M own) (pc tgt : Nat) {dflt lo hi : Int} {offs : Array Int} {len : Nat} {x : Int32} (hd : decode (mC M) pc = .ok (.tableswitch dflt lo hi offs, len)) (h1 : x.toInt < lo ∨ hi < x.toInt) (ht : (pc : Int) + dflt = (tgt : Int)) (kk : V E Γ k n tgt L st w) : V E Γ k n pc L (.int x :: st) w := by
  obtain ⟨p, e, R, s, m, args, below, meth, c, Q⟩ := Γ
  obtain ⟨hx, hb, hml, hown, hts, hlk, hK, hR, hA0⟩ := h
  intro H locs ls hP hS hl
  exact lv_tableOut hx hb hd h1 ht (kk H locs ls hP hS hl)
/-- a field of a kind's objects, as the class 'own' links it -/
def FO (own : String) (idx ci j : Nat) : Prop := ∃ (C : String) (T : u_T) (N : Nat), (∀ w ∈ u_ws C T N, w ∈ Tg) ∧ vwCl[ci]? = some (C, T, N) ∧ j < N ∧ Cond.fieldLink own idx (T j).1 (T j).2.1 (T j).2.2.1 ∈ Tg
/-- .. that may be written, of this type -/
def FW (own : String) (idx ci j : Nat) (ty : FieldType) : Prop := ∃ (C : String) (T : u_T) (N : Nat) (tys : Nat → FieldType), (∀ w ∈ u_ws C T N, w ∈ Tg) ∧ vwCl[ci]? = some (C, T, N) ∧ j < N ∧ Cond.fieldLink own idx (T j).1 (T j).2.1 (T j).2.2.1 ∈ Tg ∧ (∀ k, k < N → parseFieldDescriptor (T k).2.2.1 = some (tys k)) ∧ (∀ a, a < N → ∀ b, b < N → a ≠ b → (T a).2.1 ≠ (T b).2.1) ∧ (T j).2.2.2 = false ∧ tys j = ty
/-- .. a final one, in its constructor -/
def FF (own : String) (idx ci j : Nat) (ty : FieldType) : Prop := ∃ (C : String) (T : u_T) (N : Nat) (tys : Nat → FieldType), (∀ w ∈ u_ws C T N, w ∈ Tg) ∧ vwCl[ci]? = some (C, T, N) ∧ j < N ∧ Cond.fieldLink own idx (T j).1 (T j).2.1 (T j).2.2.1 ∈ Tg ∧ (∀ k, k < N → parseFieldDescriptor (T k).2.2.1 = some (tys k)) ∧ (∀ a, a < N → ∀ b, b < N → a ≠ b → (T a).2.1 ≠ (T b).2.1) ∧ (T j).2.2.2 = true ∧ (T j).1 = own ∧ tys j = ty
theorem v_get (h : OkB E Γ M own) (pc q : Nat) {idx ci j a : Nat} {fs : List Value} {v : Value} (hd : decode (mC M) pc = .ok (.getfield idx, 3)) (hq : pc + 3 = q) (hf : FO own idx ci j) (hw : w.2 a = some (.inr (ci, fs))) (hv : fs[j]? = some v) (kk : V E Γ k n q L (v :: st) w) : V E Γ k n pc L (.ref a :: st) w := by
  obtain ⟨p, e, R, s, m, args, below, meth, c, Q⟩ := Γ
  obtain ⟨hx, hb, hml, hown, hts, hlk, hK, hR, hA0⟩ := h
  subst hq
  intro H locs ls hP hS hl
  obtain ⟨C, T, N, f1, f2, f3, f4⟩ := hf
  exact va_get hx hb hts f1 hown hK (one_P (hP.2 a _ hw).2) 0 rfl f2 j f3 (hts _ f4) (fun _ h9 => h9) hv hd (kk H locs ls hP hS hl)
theorem v_put (h : OkB E Γ M own) (pc q : Nat) {idx ci j a : Nat} {ty : FieldType} {fs : List Value} {v : Value} (hd : decode (mC M) pc = .ok (.putfield idx, 3)) (hq : pc + 3 = q) (hf : FW own idx ci j ty) (hw : w.2 a = some (.inr (ci, fs))) (hn : narrow ty v = v) (hfit : fits ty v = true) (hlen : j < fs.length) (kk : V E Γ k n q L st (wup w a (.inr (ci, fs.set j v)))) : V E Γ k n pc L (v :: .ref a :: st) w := by
  obtain ⟨p, e, R, s, m, args, below, meth, c, Q⟩ := Γ
  obtain ⟨hx, hb, hml, hown, hts, hlk, hK, hR, hA0⟩ := h
  subst hq
  intro H locs ls hP hS hl
  obtain ⟨C, T, N, tys, f1, f2, f3, f4, f5, f6, f7, f8⟩ := hf
  subst f8
  have hap := va_apart (own := own) hts f1 tys f5 f6 hK f2
  obtain ⟨hA, r, h1, cell, q1, q2, q3, q4⟩ := hP.2 a _ hw
  have hr : r = (C, T, N) := Option.some.inj (h1.symm.trans f2)
  subst hr
  obtain ⟨hSl, hfc, kC, hkC, hkind⟩ := hK.1 ci _ f2
  obtain ⟨cf, kf, fi, f, hi, hsl⟩ := hSl j f3
  have hlay := hts _ (f1 _ (u_in_lay f3))
  unfold u_lay at hlay
  rw [if_neg (by rw [f7]; decide)] at hlay
  have hst := (u_facts hfc hkC (u_lays hts f1 f3) hi).1
  have h6 := u_store hfc hkC hkind hlay hi (f5 j f3) hn hfit
  refine W.putK hx hb (f := f) ⟨hown, hts _ f4, ⟨_, _, _, hi⟩, hst⟩ (by rw [q2]; exact h6) q1 q3 (by rw [hsl]; exact k2_hasslot (q4 j f3)) rfl rfl hd fun H' e1 e2 e3 => ?_
  rw [hsl] at e1 ⊢
  exact kk H' _ ls (hP.up hA e2 e3 ⟨_, f2, t_OB.to (V := updV (vp_V fs) j v) ⟨_, e1, q2, q3, t_set q4 hap f3 v⟩ (fun i _ => vp_updV_set hlen v i)⟩) (hS.put e2 e3 hA) hl
theorem v_putF (h : OkB E Γ M own) (hnm : (mY M).name = "<init>") (hmn : MN Γ M) (pc q : Nat) {idx ci j a : Nat} {ty : FieldType} {fs : List Value} {v : Value} (hd : decode (mC M) pc = .ok (.putfield idx, 3)) (hq : pc + 3 = q) (hf : FF own idx ci j ty) (hw : w.2 a = some (.inr (ci, fs))) (hn : narrow ty v = v) (hfit : fits ty v = true) (hlen : j < fs.length) (kk : V E Γ k n q L st (wup w a (.inr (ci, fs.set j v)))) : V E Γ k n pc L (v :: .ref a :: st) w := by
  obtain ⟨p, e, R, s, m, args, below, meth, c, Q⟩ := Γ
  obtain ⟨hx, hb, hml, hown, hts, hlk, hK, hR, hA0⟩ := h
  subst hq
  intro H locs ls hP hS hl
  obtain ⟨C, T, N, tys, f1, f2, f3, f4, f5, f6, f7, f9, f8⟩ := hf
  subst f8
  have hin2 : meth.name = "<init>" := hmn.trans hnm
  have hap := va_apart (own := own) hts f1 tys f5 f6 hK f2
  obtain ⟨hA, r, h1, cell, q1, q2, q3, q4⟩ := hP.2 a _ hw
  have hr : r = (C, T, N) := Option.some.inj (h1.symm.trans f2)
  subst hr
  obtain ⟨hSl, hfc, kC, hkC, hkind⟩ := hK.1 ci _ f2
  obtain ⟨cf, kf, fi, f, hi, hsl⟩ := hSl j f3
  have hlay := hts _ (f1 _ (u_in_lay f3))
  unfold u_lay at hlay
  rw [if_pos f7] at hlay
  have hst := (u_facts hfc hkC (u_lays hts f1 f3) hi).1
  have hcf : m.cls = cf := by
    obtain ⟨_, _, c', _, _, _, -, -, hf', -, -, -, hown2, -⟩ := Cond.laysFinal_spec hlay
    have e1 : c' = cf := by have := hi.symm.trans hf'; simp at this; exact this.1.symm
    rw [f9] at hown2
    rw [← e1]; exact Option.some.inj (hown.symm.trans hown2)
  have h6 := u_fits hfc hkC hkind (Or.inr hlay) hi (f5 j f3) hn hfit
  refine W.putFinK hx hb hown (hts _ f4) hi hst hcf hin2 (by rw [q2]; exact h6) q1 q3 (by rw [hsl]; exact k2_hasslot (q4 j f3)) rfl rfl hd fun H' e1 e2 e3 => ?_
  rw [hsl] at e1 ⊢
  exact kk H' _ ls (hP.up hA e2 e3 ⟨_, f2, t_OB.to (V := updV (vp_V fs) j v) ⟨_, e1, q2, q3, t_set q4 hap f3 v⟩ (fun i _ => vp_updV_set hlen v i)⟩) (hS.put e2 e3 hA) hl
theorem v_iald (h : OkB E Γ M own) (pc q : Nat) {a N : Nat} {f : Nat → Int32} {i : Int32} (hd : decode (mC M) pc = .ok (.iaload, 1)) (hq : pc + 1 = q) (hw : w.2 a = some (.inl (gI E, N, .inl f))) (hin : vp_in i N) (kk : V E Γ k n q L (.int (f i.toNatClampNeg) :: st) w) : V E Γ k n pc L (.int i :: .ref a :: st) w := by
  obtain ⟨p, e, R, s, m, args, below, meth, c, Q⟩ := Γ
  obtain ⟨hx, hb, hml, hown, hts, hlk, hK, hR, hA0⟩ := h
  subst hq
  intro H locs ls hP hS hl
  exact va_iald hx hb hK (one_P (hP.2 a _ hw).2) 0 0 rfl rfl hin hd (kk H locs ls hP hS hl)
theorem v_aaldCh (h : OkB E Γ M own) (pc q : Nat) {a N : Nat} {f : Nat → Option Nat} {i : Int32} (hd : decode (mC M) pc = .ok (.aaload, 1)) (hq : pc + 1 = q) (hw : w.2 a = some (.inl (gCh E, N, .inr (.inr (.inr (.inr f)))))) (hin : vp_in i N) (kk : V E Γ k n q L (va_rf (f i.toNatClampNeg) :: st) w) : V E Γ k n pc L (.int i :: .ref a :: st) w := by
  obtain ⟨p, e, R, s, m, args, below, meth, c, Q⟩ := Γ
  obtain ⟨hx, hb, hml, hown, hts, hlk, hK, hR, hA0⟩ := h
  subst hq
  intro H locs ls hP hS hl
  exact va_aldq hx hb hK (one_P (hP.2 a _ hw).2) 0 2 rfl rfl hin hd (kk H locs ls hP hS hl)
theorem v_aaldTm (h : OkB E Γ M own) (pc q : Nat) {a N : Nat} {f : Nat → Option Nat} {i : Int32} (hd : decode (mC M) pc = .ok (.aaload, 1)) (hq : pc + 1 = q) (hw : w.2 a = some (.inl (gTm E, N, .inr (.inr (.inr (.inr f)))))) (hin : vp_in i N) (kk : V E Γ k n q L (va_rf (f i.toNatClampNeg) :: st) w) : V E Γ k n pc L (.int i :: .ref a :: st) w := by
  obtain ⟨p, e, R, s, m, args, below, meth, c, Q⟩ := Γ
  obtain ⟨hx, hb, hml, hown, hts, hlk, hK, hR, hA0⟩ := h
  subst hq
  intro H locs ls hP hS hl
  exact va_aldq hx hb hK (one_P (hP.2 a _ hw).2) 0 3 rfl rfl hin hd (kk H locs ls hP hS hl)
theorem v_aaldLn (h : OkB E Γ M own) (pc q : Nat) {a N : Nat} {f : Nat → Option Nat} {i : Int32} (hd : decode (mC M) pc = .ok (.aaload, 1)) (hq : pc + 1 = q) (hw : w.2 a = some (.inl (gLn E, N, .inr (.inr (.inr (.inr f)))))) (hin : vp_in i N) (kk : V E Γ k n q L (va_rf (f i.toNatClampNeg) :: st) w) : V E Γ k n pc L (.int i :: .ref a :: st) w := by
  obtain ⟨p, e, R, s, m, args, below, meth, c, Q⟩ := Γ
  obtain ⟨hx, hb, hml, hown, hts, hlk, hK, hR, hA0⟩ := h
  subst hq
  intro H locs ls hP hS hl
  exact va_aldq hx hb hK (one_P (hP.2 a _ hw).2) 0 4 rfl rfl hin hd (kk H locs ls hP hS hl)
theorem v_alen (h : OkB E Γ M own) (pc q t0 : Nat) {a : Nat} {cA : ClassId} {x : vp_A} {ty : FieldType} {v : Int32} (hd : decode (mC M) pc = .ok (.arraylength, 1)) (hq : pc + 1 = q) (hw : w.2 a = some (.inl (cA, x))) (ht : (gtys E)[t0]? = some (cA, ty)) (hv : Int32.ofNat x.1 = v) (kk : V E Γ k n q L (.int v :: st) w) : V E Γ k n pc L (.ref a :: st) w := by
  obtain ⟨p, e, R, s, m, args, below, meth, c, Q⟩ := Γ
  obtain ⟨hx, hb, hml, hown, hts, hlk, hK, hR, hA0⟩ := h
  subst hq
  intro H locs ls hP hS hl
  exact va_alen hx hb hK (one_P (hP.2 a _ hw).2) 0 t0 rfl ht hv hd (kk H locs ls hP hS hl)
theorem v_iast (h : OkB E Γ M own) (pc q : Nat) {a N : Nat} {f : Nat → Int32} {i x : Int32} (hd : decode (mC M) pc = .ok (.iastore, 1)) (hq : pc + 1 = q) (hw : w.2 a = some (.inl (gI E, N, .inl f))) (hin : vp_in i N) (kk : V E Γ k n q L st (wup w a (.inl (gI E, N, .inl (upd f i.toNatClampNeg x))))) : V E Γ k n pc L (.int x :: .int i :: .ref a :: st) w := by
  obtain ⟨p, e, R, s, m, args, below, meth, c, Q⟩ := Γ
  obtain ⟨hx, hb, hml, hown, hts, hlk, hK, hR, hA0⟩ := h
  subst hq
  intro H locs ls hP hS hl
  obtain ⟨hA, ha⟩ := hP.2 a _ hw
  refine W.iast hx hb ha ((hK.2 0 _ rfl).1 N (fun j => .int (f j))) (fun q => by cases q) (by show ¬ (i < 0 ∨ (arrV _ _ _).slots.size ≤ _); rw [arrV_size]; exact hin) rfl rfl hd fun H1 e z oq => ?_
  refine kk H1 _ ls (hP.up hA z oq ?_) (hS.put z oq hA) hl
  show H1[a]? = some (vp_cell _ _)
  rw [e]
  rw [vp_cell_i, vp_cell_i, arrV_store]
  congr 2
  funext q
  by_cases hq : q = i.toNatClampNeg
  · subst hq
    simp [updV, upd]
  · simp [updV, upd, hq]
theorem v_iret (h : OkB E Γ M own) (pc : Nat) {x : Int32} {r : Option Value} {w2 : Wo} (f : Fn E Γ M r w2) (hd : decode (mC M) pc = .ok (.ireturn, 1)) (hT : mT M = some .int) (hk : k ≤ (mR M).cells) (hn : n ≤ (mR M).slots) (hr : some (.int x) = r) (hw : w = w2) : V E Γ k n pc L (.int x :: []) w := by
  obtain ⟨p, e, R, s, m, args, below, meth, c, Q⟩ := Γ
  obtain ⟨hx, hb, hml, hown, hts, hlk, hK, hR, hA0⟩ := h
  intro H locs ls hP hS hl
  obtain ⟨hrt, rfl⟩ := f
  subst hr; subst hw
  refine W.widen hk hn ?_
  exact W.iret (v := x) hx hb (hrt.trans hT) (fun t ht hW => ⟨⟨rfl, by rw [ht]; exact hP⟩, hS.F ht⟩) hS.2.2 hd hlk
theorem v_zret (h : OkB E Γ M own) (pc : Nat) {x : Int32} {r : Option Value} {w2 : Wo} (f : Fn E Γ M r w2) (hd : decode (mC M) pc = .ok (.ireturn, 1)) (hT : mT M = some .boolean) (hnw : narrow .boolean (.int x) = .int x) (hk : k ≤ (mR M).cells) (hn : n ≤ (mR M).slots) (hr : some (.int x) = r) (hw : w = w2) : V E Γ k n pc L (.int x :: []) w := by
  obtain ⟨p, e, R, s, m, args, below, meth, c, Q⟩ := Γ
  obtain ⟨hx, hb, hml, hown, hts, hlk, hK, hR, hA0⟩ := h
  intro H locs ls hP hS hl
  obtain ⟨hrt, rfl⟩ := f
  subst hr; subst hw
  refine W.widen hk hn ?_
  exact W.zret (v := x) hx hb (hrt.trans hT) hnw (fun t ht hW => ⟨⟨rfl, by rw [ht]; exact hP⟩, hS.F ht⟩) hS.2.2 hd hlk
theorem v_lret (h : OkB E Γ M own) (pc : Nat) {x : Int64} {r : Option Value} {w2 : Wo} (f : Fn E Γ M r w2) (hd : decode (mC M) pc = .ok (.lreturn, 1)) (hT : mT M = some .long) (hk : k ≤ (mR M).cells) (hn : n ≤ (mR M).slots) (hr : some (.long x) = r) (hw : w = w2) : V E Γ k n pc L (.long x :: []) w := by
  obtain ⟨p, e, R, s, m, args, below, meth, c, Q⟩ := Γ
  obtain ⟨hx, hb, hml, hown, hts, hlk, hK, hR, hA0⟩ := h
  intro H locs ls hP hS hl
  obtain ⟨hrt, rfl⟩ := f
  subst hr; subst hw
  refine W.widen hk hn ?_
  exact W.lret (v := x) hx hb (hrt.trans hT) (fun t ht hW => ⟨⟨rfl, by rw [ht]; exact hP⟩, hS.F ht⟩) hS.2.2 hd hlk
theorem v_dret (h : OkB E Γ M own) (pc : Nat) {x : UInt64} {r : Option Value} {w2 : Wo} (f : Fn E Γ M r w2) (hd : decode (mC M) pc = .ok (.dreturn, 1)) (hT : mT M = some .double) (hk : k ≤ (mR M).cells) (hn : n ≤ (mR M).slots) (hr : some (.double x) = r) (hw : w = w2) : V E Γ k n pc L (.double x :: []) w := by
  obtain ⟨p, e, R, s, m, args, below, meth, c, Q⟩ := Γ
  obtain ⟨hx, hb, hml, hown, hts, hlk, hK, hR, hA0⟩ := h
  intro H locs ls hP hS hl
  obtain ⟨hrt, rfl⟩ := f
  subst hr; subst hw
  refine W.widen hk hn ?_
  exact W.dret (v := x) hx hb (hrt.trans hT) (fun t ht hW => ⟨⟨rfl, by rw [ht]; exact hP⟩, hS.F ht⟩) hS.2.2 hd hlk
theorem v_aret (h : OkB E Γ M own) (pc : Nat) {v : Value} {C : String} {r : Option Value} {w2 : Wo} (f : Fn E Γ M r w2) (hd : decode (mC M) pc = .ok (.areturn, 1)) (hT : mT M = some (.object C)) (hv : v = .null ∨ ∃ a, v = .ref a) (hk : k ≤ (mR M).cells) (hn : n ≤ (mR M).slots) (hr : some v = r) (hw : w = w2) : V E Γ k n pc L (v :: []) w := by
  obtain ⟨p, e, R, s, m, args, below, meth, c, Q⟩ := Γ
  obtain ⟨hx, hb, hml, hown, hts, hlk, hK, hR, hA0⟩ := h
  intro H locs ls hP hS hl
  obtain ⟨hrt, rfl⟩ := f
  subst hr; subst hw
  refine W.widen hk hn ?_
  exact W.aret (v := v) hx hb (hrt.trans hT) (Or.inl ⟨_, rfl⟩) hv (fun t ht hW => ⟨⟨rfl, by rw [ht]; exact hP⟩, hS.F ht⟩) hS.2.2 hd hlk
theorem v_ret (h : OkB E Γ M own) (pc : Nat)  {r : Option Value} {w2 : Wo} (f : Fn E Γ M r w2) (hd : decode (mC M) pc = .ok (.return_, 1)) (hT : mT M = none) (hk : k ≤ (mR M).cells) (hn : n ≤ (mR M).slots) (hr : none = r) (hw : w = w2) : V E Γ k n pc L ([]) w := by
  obtain ⟨p, e, R, s, m, args, below, meth, c, Q⟩ := Γ
  obtain ⟨hx, hb, hml, hown, hts, hlk, hK, hR, hA0⟩ := h
  intro H locs ls hP hS hl
  obtain ⟨hrt, rfl⟩ := f
  subst hr; subst hw
  refine W.widen hk hn ?_
  exact W.vret hx hb (hrt.trans hT) (fun t ht hW => ⟨⟨rfl, by rw [ht]; exact hP⟩, hS.F ht⟩) hS.2.2 hd hlk
end ROWS
