/-! THE LAW'S FOUR ROWS g, e, q, j AT B .. B+3, read off one row of numbers R -/
theorem v_tern {E : EE} {Γ : Cx} {k n : Nat} {L : Lo} {st : List Value} {w : Wo} {C : Prop} [Decidable C] {x y : Int32} {G : Prop} (M t q : Nat) (row : (C → V E Γ k n t L st w) → (¬ C → V E Γ k n q L st w) → G) (ht : V E Γ k n M L (.int x :: st) w → V E Γ k n t L st w) (hf : V E Γ k n M L (.int y :: st) w → V E Γ k n q L st w) (kk : V E Γ k n M L (.int (if C then x else y) :: st) w) : G :=
  row (fun c => ht (by rw [if_pos c] at kk; exact kk)) (fun c => hf (by rw [if_neg c] at kk; exact kk))
theorem v_ternN {E : EE} {Γ : Cx} {k n : Nat} {L : Lo} {st : List Value} {w : Wo} {C : Prop} [Decidable C] {x y : Int32} {G : Prop} (M t q : Nat) (row : (¬ C → V E Γ k n t L st w) → (C → V E Γ k n q L st w) → G) (ht : V E Γ k n M L (.int x :: st) w → V E Γ k n t L st w) (hf : V E Γ k n M L (.int y :: st) w → V E Γ k n q L st w) (kk : V E Γ k n M L (.int (if C then y else x) :: st) w) : G :=
  row (fun c => ht (by rw [if_neg c] at kk; exact kk)) (fun c => hf (by rw [if_pos c] at kk; exact kk))
/-- a world with less told of it -/
theorem HP.less {E : EE} {w w' : Wo} {H : Heap} (h1 : w'.1 = w.1) (h2 : ∀ a e, w'.2 a = some e → w.2 a = some e) (h : HP E w H) : HP E w' H := ⟨h.1.trans h1.symm, fun a e q => h.2 a e (h2 a e q)⟩
theorem V.less {E : EE} {Γ : Cx} {k n pc : Nat} {L : Lo} {st : List Value} {w w' : Wo} (h1 : w'.1 = w.1) (h2 : ∀ a e, w'.2 a = some e → w.2 a = some e) (kk : V E Γ k n pc L st w') : V E Γ k n pc L st w := by
  obtain ⟨p, e, R, s, m, args, below, meth, c, Q⟩ := Γ
  exact fun H locs ls hP hS hl => kk H locs ls (hP.less h1 h2) hS hl
/-- no cell is told of at the heap's end -/
def Nn (w : Wo) : Prop := ∀ a, w.1 ≤ a → w.2 a = none
theorem HP.nn {E : EE} {w : Wo} {H : Heap} (h : HP E w H) : Nn w := by
  intro a ha
  cases e : w.2 a with
  | none => rfl
  | some x => exact absurd (h.2 a x e).2.lt (by rw [h.1]; omega)
theorem Cd.ofN {E : EE} {M : MI} {w w2 : Wo} {as : List Value} {r : Option Value} (own : String) (hown : (mY M).cls = own) (hpl : plainName (mY M).cls = true) (L0 : Lo) (hlen : (lg_sl as).length ≤ mL M) (hL0 : loE as (mL M) = L0)
    (body : Nn w → ∀ Γ : Cx, OkB E Γ M own → Fn E Γ M r w2 → MN Γ M → V E Γ 0 0 0 L0 [] w) : Cd E M w as r w2 := by
  subst hL0
  refine Met.ofW (cc := mC M) (maxL := mL M) (ret := mT M) hpl rfl ?_
  intro p e s m args below meth c s₁ B hml hv
  obtain ⟨rfl, hP, hK, hA⟩ := hv
  have hts := atoms_spec (ws := .code (mY M) (mC M) (mL M) (mT M) :: Tg) B.pre
  have h := body hP.nn (p, e, mR M, s, m, as.toArray, below, meth, c, MQ below (Po E r w2) as.toArray s (mR M).cells (mR M).slots E.2.2)
    ⟨B.exec, B.bytes, hml, by rw [← hown]; exact findClass_of_methodNamed B.named, fun w hw => hts w (List.mem_cons_of_mem _ hw), B.notSynchronized, hK, rfl, hA⟩
    ⟨B.returns, rfl⟩ (name_of_methodNamed B.named B.method).1
  rw [lg_entry_eq]
  have hl := lv_entry as (n := mL M) hlen
  refine h s.heap [] _ hP va_S.rf ?_
  rw [hml]
  exact ⟨hl.1, hl.2.1, fun k v hk => hl.2.2 (k, v) (loE_in as _ k v hk)⟩
def lwC (E : EE) (R : St) (o : Nat) : va_E :=
  if o = 0 then .inl (gI E, 13, .inl (gd 13 R))
  else if o = 1 then .inl (gI E, 64, .inl (gd 64 (fun k => R (13 + k))))
  else if o = 2 then .inl (gI E, 32, .inl (gd 32 (fun k => R (125 + k))))
  else .inl (gI E, 14, .inl (gd 14 (fun k => R (157 + k))))
def lw (E : EE) (B : Nat) (R : St) (w : Wo) : Wo := (w.1, fun a => if B ≤ a ∧ a < B + 4 then some (lwC E R (a - B)) else w.2 a)
section LW
variable {E : EE} {B : Nat} {R : St} {w : Wo}
theorem lw_at (o : Nat) (h : o < 4) : (lw E B R w).2 (B + o) = some (lwC E R o) := by
  show (if B ≤ B + o ∧ B + o < B + 4 then some (lwC E R (B + o - B)) else w.2 (B + o)) = _
  rw [if_pos ⟨by omega, by omega⟩, Nat.add_sub_cancel_left]
theorem lw_out {a : Nat} (h : a < B ∨ B + 4 ≤ a) : (lw E B R w).2 a = w.2 a := by
  show (if B ≤ a ∧ a < B + 4 then some (lwC E R (a - B)) else w.2 a) = _
  rw [if_neg (by omega)]
theorem lw_g : (lw E B R w).2 B = some (.inl (gI E, 13, .inl (gd 13 R))) := lw_at (B := B) 0 (by decide)
theorem lw_e : (lw E B R w).2 (B + 1) = some (.inl (gI E, 64, .inl (gd 64 (fun k => R (13 + k))))) := lw_at 1 (by decide)
theorem lw_q : (lw E B R w).2 (B + 2) = some (.inl (gI E, 32, .inl (gd 32 (fun k => R (125 + k))))) := lw_at 2 (by decide)
theorem lw_j : (lw E B R w).2 (B + 3) = some (.inl (gI E, 14, .inl (gd 14 (fun k => R (157 + k))))) := lw_at 3 (by decide)
theorem lw_ext {R' : St} {w1 : Wo} (h1 : w1.1 = w.1) (ho : ∀ a, a < B ∨ B + 4 ≤ a → w1.2 a = w.2 a) (hi : ∀ o, o < 4 → w1.2 (B + o) = some (lwC E R' o)) : w1 = lw E B R' w := by
  refine Prod.ext h1 (funext fun a => ?_)
  by_cases h : a < B ∨ B + 4 ≤ a
  · rw [lw_out h, ho a h]
  · obtain ⟨o, rfl⟩ : ∃ o, a = B + o := ⟨a - B, by omega⟩
    rw [lw_at o (by omega), hi o (by omega)]
theorem four {P : Nat → Prop} (h0 : P 0) (h1 : P 1) (h2 : P 2) (h3 : P 3) : ∀ o, o < 4 → P o := by
  intro o h
  rcases (show o = 0 ∨ o = 1 ∨ o = 2 ∨ o = 3 by omega) with rfl | rfl | rfl | rfl
  · exact h0
  · exact h1
  · exact h2
  · exact h3
theorem lw_set {R' : St} {e : va_E} (b : Nat) (hb : b < 4) (he : lwC E R' b = e) (ho : ∀ o, o < 4 → o ≠ b → lwC E R' o = lwC E R o) : wup (lw E B R w) (B + b) e = lw E B R' w := by
  refine lw_ext rfl (fun a h => ?_) (fun o h => ?_)
  · show (if a = B + b then some e else (lw E B R w).2 a) = w.2 a
    rw [if_neg (by omega), lw_out h]
  · show (if B + o = B + b then some e else (lw E B R w).2 (B + o)) = _
    by_cases q : o = b
    · rw [if_pos (by omega), q, he]
    · rw [if_neg (by omega), lw_at o h, ho o h q]
theorem lw_same {R' : St} (h : ∀ i, i < 171 → (i < 77 ∨ 125 ≤ i) → R' i = R i) : lw E B R' w = lw E B R w := by
  refine lw_ext rfl (fun a h => lw_out h) (fun o ho => ?_)
  rw [lw_at o ho]
  refine congrArg some (four (P := fun o => lwC E R' o = lwC E R o) ?_ ?_ ?_ ?_ o ho)
  · exact congrArg (fun f => (.inl (gI E, 13, .inl f) : va_E)) (gd_eq (fun i hi => h i (by omega) (by omega)))
  · exact congrArg (fun f => (.inl (gI E, 64, .inl f) : va_E)) (gd_eq (fun i hi => h (13 + i) (by omega) (by omega)))
  · exact congrArg (fun f => (.inl (gI E, 32, .inl f) : va_E)) (gd_eq (fun i hi => h (125 + i) (by omega) (by omega)))
  · exact congrArg (fun f => (.inl (gI E, 14, .inl f) : va_E)) (gd_eq (fun i hi => h (157 + i) (by omega) (by omega)))
theorem gd_sh {n d i : Nat} {x : Int32} (h : i < n) : upd (gd n (fun k => R (d + k))) i x = gd n (fun k => upd R (d + i) x (d + k)) := by
  rw [gd_up h]
  refine gd_eq (fun k _ => ?_)
  show (if k = i then x else R (d + k)) = if d + k = d + i then x else R (d + k)
  by_cases e : k = i
  · rw [if_pos e, if_pos (by omega)]
  · rw [if_neg e, if_neg (by omega)]
theorem gd_no {n d i : Nat} {x : Int32} (h : ∀ k, k < n → d + k ≠ i) : gd n (fun k => upd R i x (d + k)) = gd n (fun k => R (d + k)) := gd_eq (fun k hk => upd_ne _ _ (h k hk))
theorem gd_no0 {n i : Nat} {x : Int32} (h : n ≤ i) : gd n (upd R i x) = gd n R := gd_eq (fun k hk => upd_ne _ _ (by omega))
theorem lw_wg {i : Nat} {x : Int32} (h : i < 13) : wup (lw E B R w) B (.inl (gI E, 13, .inl (upd (gd 13 R) i x))) = lw E B (upd R i x) w := by
  refine lw_set (B := B) 0 (by decide) (by rw [gd_up h]; rfl) (four (P := fun o => o ≠ 0 → lwC E (upd R i x) o = lwC E R o) (fun q => absurd rfl q) (fun _ => ?_) (fun _ => ?_) (fun _ => ?_))
  · exact congrArg (fun f => (.inl (gI E, 64, .inl f) : va_E)) (gd_no (fun k hk => by omega))
  · exact congrArg (fun f => (.inl (gI E, 32, .inl f) : va_E)) (gd_no (fun k hk => by omega))
  · exact congrArg (fun f => (.inl (gI E, 14, .inl f) : va_E)) (gd_no (fun k hk => by omega))
theorem lw_we {i : Nat} {x : Int32} (h : i < 64) : wup (lw E B R w) (B + 1) (.inl (gI E, 64, .inl (upd (gd 64 (fun k => R (13 + k))) i x))) = lw E B (upd R (13 + i) x) w := by
  refine lw_set 1 (by decide) (by rw [gd_sh h]; rfl) (four (P := fun o => o ≠ 1 → lwC E (upd R (13 + i) x) o = lwC E R o) (fun _ => ?_) (fun q => absurd rfl q) (fun _ => ?_) (fun _ => ?_))
  · exact congrArg (fun f => (.inl (gI E, 13, .inl f) : va_E)) (gd_no0 (by omega))
  · exact congrArg (fun f => (.inl (gI E, 32, .inl f) : va_E)) (gd_no (fun k hk => by omega))
  · exact congrArg (fun f => (.inl (gI E, 14, .inl f) : va_E)) (gd_no (fun k hk => by omega))
theorem lw_wq {i : Nat} {x : Int32} (h : i < 32) : wup (lw E B R w) (B + 2) (.inl (gI E, 32, .inl (upd (gd 32 (fun k => R (125 + k))) i x))) = lw E B (upd R (125 + i) x) w := by
  refine lw_set 2 (by decide) (by rw [gd_sh h]; rfl) (four (P := fun o => o ≠ 2 → lwC E (upd R (125 + i) x) o = lwC E R o) (fun _ => ?_) (fun _ => ?_) (fun q => absurd rfl q) (fun _ => ?_))
  · exact congrArg (fun f => (.inl (gI E, 13, .inl f) : va_E)) (gd_no0 (by omega))
  · exact congrArg (fun f => (.inl (gI E, 64, .inl f) : va_E)) (gd_no (fun k hk => by omega))
  · exact congrArg (fun f => (.inl (gI E, 14, .inl f) : va_E)) (gd_no (fun k hk => by omega))
theorem lw_wj {i : Nat} {x : Int32} (h : i < 14) : wup (lw E B R w) (B + 3) (.inl (gI E, 14, .inl (upd (gd 14 (fun k => R (157 + k))) i x))) = lw E B (upd R (157 + i) x) w := by
  refine lw_set 3 (by decide) (by rw [gd_sh h]; rfl) (four (P := fun o => o ≠ 3 → lwC E (upd R (157 + i) x) o = lwC E R o) (fun _ => ?_) (fun _ => ?_) (fun _ => ?_) (fun q => absurd rfl q))
  · exact congrArg (fun f => (.inl (gI E, 13, .inl f) : va_E)) (gd_no0 (by omega))
  · exact congrArg (fun f => (.inl (gI E, 64, .inl f) : va_E)) (gd_no (fun k hk => by omega))
  · exact congrArg (fun f => (.inl (gI E, 32, .inl f) : va_E)) (gd_no (fun k hk => by omega))
end LW
section LWROWS
variable {E : EE} {Γ : Cx} {M : MI} {own : String} {k n : Nat} {L : Lo} {st : List Value} {w : Wo} {B : Nat} {R : St}
theorem v_iaddN (h : OkB E Γ M own) (pc q : Nat) {a b : Nat} (hd : decode (mC M) pc = .ok (.iadd, 1)) (hq : pc + 1 = q) (kk : V E Γ k n q L (.int (nI (a + b)) :: st) w) : V E Γ k n pc L (.int (nI b) :: .int (nI a) :: st) w := v_iadd h pc q hd hq (by rw [nI_add]; exact kk)
theorem v_imulN (h : OkB E Γ M own) (pc q : Nat) {a b : Nat} (hd : decode (mC M) pc = .ok (.imul, 1)) (hq : pc + 1 = q) (kk : V E Γ k n q L (.int (nI (a * b)) :: st) w) : V E Γ k n pc L (.int (nI b) :: .int (nI a) :: st) w := v_imul h pc q hd hq (by rw [pk_mul]; exact kk)
theorem v_idivN (h : OkB E Γ M own) (pc q : Nat) {a b : Nat} (hd : decode (mC M) pc = .ok (.idiv, 1)) (hq : pc + 1 = q) (ha : a < 2 ^ 31) (hb : 0 < b) (hb2 : b < 2 ^ 31) (kk : V E Γ k n q L (.int (nI (a / b)) :: st) w) : V E Γ k n pc L (.int (nI b) :: .int (nI a) :: st) w := v_idiv h pc q hd hq (nI_ne0 hb hb2) (by rw [pk_div ha hb hb2]; exact kk)
theorem v_iremN (h : OkB E Γ M own) (pc q : Nat) {a b : Nat} (hd : decode (mC M) pc = .ok (.irem, 1)) (hq : pc + 1 = q) (ha : a < 2 ^ 31) (hb : 0 < b) (hb2 : b < 2 ^ 31) (kk : V E Γ k n q L (.int (nI (a % b)) :: st) w) : V E Γ k n pc L (.int (nI b) :: .int (nI a) :: st) w := v_irem h pc q hd hq (nI_ne0 hb hb2) (by rw [pk_rem ha hb hb2]; exact kk)
theorem v_ldG (h : OkB E Γ M own) (pc q : Nat) (i : Nat) (hd : decode (mC M) pc = .ok (.iaload, 1)) (hq : pc + 1 = q) (hi : i < 13) (kk : V E Γ k n q L (.int (R (i)) :: st) (lw E B R w)) : V E Γ k n pc L (.int (nI (i)) :: .ref B :: st) (lw E B R w) := by
  refine v_iald h pc q hd hq lw_g (vp_in_nI (n := i) (by omega) (by decide)) ?_
  rw [nI_clamp (by omega), gd_at (by omega)]
  exact V.world rfl kk
theorem v_stG (h : OkB E Γ M own) (pc q : Nat) (i : Nat) {x : Int32} (hd : decode (mC M) pc = .ok (.iastore, 1)) (hq : pc + 1 = q) (hi : i < 13) (kk : V E Γ k n q L st (lw E B (upd R (i) x) w)) : V E Γ k n pc L (.int x :: .int (nI (i)) :: .ref B :: st) (lw E B R w) := by
  refine v_iast h pc q hd hq lw_g (vp_in_nI (n := i) (by omega) (by decide)) ?_
  rw [nI_clamp (by omega), lw_wg (by omega)]
  exact kk
theorem v_ldE (h : OkB E Γ M own) (pc q : Nat) (c k' : Nat) (hd : decode (mC M) pc = .ok (.iaload, 1)) (hq : pc + 1 = q) (hc : c < 8) (hk : k' < 8) (kk : V E Γ k n q L (.int (R (13 + 8 * c + k')) :: st) (lw E B R w)) : V E Γ k n pc L (.int (nI (8 * c + k')) :: .ref (B + 1) :: st) (lw E B R w) := by
  refine v_iald h pc q hd hq lw_e (vp_in_nI (n := 8 * c + k') (by omega) (by decide)) ?_
  rw [nI_clamp (by omega), gd_at (by omega)]
  exact V.world rfl (by simpa only [Nat.add_assoc, Nat.add_zero] using kk)
theorem v_stE (h : OkB E Γ M own) (pc q : Nat) (c k' : Nat) {x : Int32} (hd : decode (mC M) pc = .ok (.iastore, 1)) (hq : pc + 1 = q) (hc : c < 8) (hk : k' < 8) (kk : V E Γ k n q L st (lw E B (upd R (13 + 8 * c + k') x) w)) : V E Γ k n pc L (.int x :: .int (nI (8 * c + k')) :: .ref (B + 1) :: st) (lw E B R w) := by
  refine v_iast h pc q hd hq lw_e (vp_in_nI (n := 8 * c + k') (by omega) (by decide)) ?_
  rw [nI_clamp (by omega), lw_we (by omega)]
  exact (by simpa only [Nat.add_assoc, Nat.add_zero] using kk)
theorem v_ldE0 (h : OkB E Γ M own) (pc q : Nat) (c : Nat) (hd : decode (mC M) pc = .ok (.iaload, 1)) (hq : pc + 1 = q) (hc : c < 8) (kk : V E Γ k n q L (.int (R (13 + 8 * c + 0)) :: st) (lw E B R w)) : V E Γ k n pc L (.int (nI (8 * c)) :: .ref (B + 1) :: st) (lw E B R w) := by
  refine v_iald h pc q hd hq lw_e (vp_in_nI (n := 8 * c) (by omega) (by decide)) ?_
  rw [nI_clamp (by omega), gd_at (by omega)]
  exact V.world rfl (by simpa only [Nat.add_assoc, Nat.add_zero] using kk)
theorem v_stE0 (h : OkB E Γ M own) (pc q : Nat) (c : Nat) {x : Int32} (hd : decode (mC M) pc = .ok (.iastore, 1)) (hq : pc + 1 = q) (hc : c < 8) (kk : V E Γ k n q L st (lw E B (upd R (13 + 8 * c + 0) x) w)) : V E Γ k n pc L (.int x :: .int (nI (8 * c)) :: .ref (B + 1) :: st) (lw E B R w) := by
  refine v_iast h pc q hd hq lw_e (vp_in_nI (n := 8 * c) (by omega) (by decide)) ?_
  rw [nI_clamp (by omega), lw_we (by omega)]
  exact (by simpa only [Nat.add_assoc, Nat.add_zero] using kk)
theorem v_ldQ (h : OkB E Γ M own) (pc q : Nat) (c k' : Nat) (hd : decode (mC M) pc = .ok (.iaload, 1)) (hq : pc + 1 = q) (hc : c < 4) (hk : k' < 8) (kk : V E Γ k n q L (.int (R (125 + 8 * c + k')) :: st) (lw E B R w)) : V E Γ k n pc L (.int (nI (8 * c + k')) :: .ref (B + 2) :: st) (lw E B R w) := by
  refine v_iald h pc q hd hq lw_q (vp_in_nI (n := 8 * c + k') (by omega) (by decide)) ?_
  rw [nI_clamp (by omega), gd_at (by omega)]
  exact V.world rfl (by simpa only [Nat.add_assoc, Nat.add_zero] using kk)
theorem v_stQ (h : OkB E Γ M own) (pc q : Nat) (c k' : Nat) {x : Int32} (hd : decode (mC M) pc = .ok (.iastore, 1)) (hq : pc + 1 = q) (hc : c < 4) (hk : k' < 8) (kk : V E Γ k n q L st (lw E B (upd R (125 + 8 * c + k') x) w)) : V E Γ k n pc L (.int x :: .int (nI (8 * c + k')) :: .ref (B + 2) :: st) (lw E B R w) := by
  refine v_iast h pc q hd hq lw_q (vp_in_nI (n := 8 * c + k') (by omega) (by decide)) ?_
  rw [nI_clamp (by omega), lw_wq (by omega)]
  exact (by simpa only [Nat.add_assoc, Nat.add_zero] using kk)
theorem v_ldQ0 (h : OkB E Γ M own) (pc q : Nat) (c : Nat) (hd : decode (mC M) pc = .ok (.iaload, 1)) (hq : pc + 1 = q) (hc : c < 4) (kk : V E Γ k n q L (.int (R (125 + 8 * c + 0)) :: st) (lw E B R w)) : V E Γ k n pc L (.int (nI (8 * c)) :: .ref (B + 2) :: st) (lw E B R w) := by
  refine v_iald h pc q hd hq lw_q (vp_in_nI (n := 8 * c) (by omega) (by decide)) ?_
  rw [nI_clamp (by omega), gd_at (by omega)]
  exact V.world rfl (by simpa only [Nat.add_assoc, Nat.add_zero] using kk)
theorem v_stQ0 (h : OkB E Γ M own) (pc q : Nat) (c : Nat) {x : Int32} (hd : decode (mC M) pc = .ok (.iastore, 1)) (hq : pc + 1 = q) (hc : c < 4) (kk : V E Γ k n q L st (lw E B (upd R (125 + 8 * c + 0) x) w)) : V E Γ k n pc L (.int x :: .int (nI (8 * c)) :: .ref (B + 2) :: st) (lw E B R w) := by
  refine v_iast h pc q hd hq lw_q (vp_in_nI (n := 8 * c) (by omega) (by decide)) ?_
  rw [nI_clamp (by omega), lw_wq (by omega)]
  exact (by simpa only [Nat.add_assoc, Nat.add_zero] using kk)
theorem v_ldJ (h : OkB E Γ M own) (pc q : Nat) (i : Nat) (hd : decode (mC M) pc = .ok (.iaload, 1)) (hq : pc + 1 = q) (hi : i < 14) (kk : V E Γ k n q L (.int (R (157 + i)) :: st) (lw E B R w)) : V E Γ k n pc L (.int (nI (i)) :: .ref (B + 3) :: st) (lw E B R w) := by
  refine v_iald h pc q hd hq lw_j (vp_in_nI (n := i) (by omega) (by decide)) ?_
  rw [nI_clamp (by omega), gd_at (by omega)]
  exact V.world rfl kk
theorem v_stJ (h : OkB E Γ M own) (pc q : Nat) (i : Nat) {x : Int32} (hd : decode (mC M) pc = .ok (.iastore, 1)) (hq : pc + 1 = q) (hi : i < 14) (kk : V E Γ k n q L st (lw E B (upd R (157 + i) x) w)) : V E Γ k n pc L (.int x :: .int (nI (i)) :: .ref (B + 3) :: st) (lw E B R w) := by
  refine v_iast h pc q hd hq lw_j (vp_in_nI (n := i) (by omega) (by decide)) ?_
  rw [nI_clamp (by omega), lw_wj (by omega)]
  exact kk
end LWROWS
