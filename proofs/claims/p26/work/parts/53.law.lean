/-! THE LAW'S BODY -/
def mLaw : MI := (x, code, 9, ret, room_1)
def LG (E : EE) (Γ : Cx) (b : Nat) : Prop := match Γ with | (_, _, _, s, _, args, below, meth, _, Q) => args = #[Value.ref b] ∧ meth.sig.returnType = ret ∧ Q = lw_Z below #[Value.ref b] s ∧ E.2.2 = fun q => s.heap.size ≤ q
/-- the law's end -/
theorem v_law1 {E : EE} {Γ : Cx} {k n : Nat} {L : Lo} {w : Wo} {b : Nat} (h : OkB E Γ mLaw RL) (hL : LG E Γ b) (pc : Nat) (hk : k ≤ 600104) (hn : n ≤ 7301314) (hd : decode code pc = .ok (.ireturn, 1)) : V E Γ k n pc L [.int 1] w := by
  obtain ⟨p, e, R, s, m, args, below, meth, c, Q⟩ := Γ
  obtain ⟨hx, hb, hml, hown, hts, hlk, hK, hR, hA0⟩ := h
  obtain ⟨rfl, hrt, rfl, hA⟩ := hL
  have hR : R = room_1 := hR
  subst hR
  intro H locs ls hP hS hl
  refine va_forget (fun q hq => by have := hS.2.2 q hq; rw [hA] at this; exact this) ?_
  refine W.widen hk hn (W.base ?_)
  exact lw_ret (Drawn.sameBut.refl s.drawn lw_cs) hx hb hrt hlk hd
theorem rl_0 : Rl (rstS (fun _ => 0) 3) (rstS (fun _ => 0) 3) 0 0 0 0 0 0 := by
  refine ⟨⟨⟨⟨rfl, by omega, by omega, fun k hk => ⟨4, by omega, by omega, ?_⟩⟩, rfl, by omega, rfl, by omega, rfl, rfl⟩, rfl, fun c hc => by omega, fun t ht => by omega⟩, ⟨fun c hc => by omega, fun t ht => by omega⟩, by omega, by omega, Ag.refl _, by omega, by omega⟩
  rcases (show k = 0 ∨ k = 1 ∨ k = 2 ∨ k = 3 ∨ k = 4 ∨ k = 5 by omega) with rfl | rfl | rfl | rfl | rfl | rfl <;> rfl
set_option maxRecDepth 100000 in
set_option maxHeartbeats 4000000 in
theorem law_body {E : EE} {Γ : Cx} {b D N : Nat} {xs : Nat → Int32} {wb : Nat → Option va_E} (h : OkB E Γ mLaw RL) (hZ : ZG E Γ) (hX : XG E Γ b N xs) (hL : LG E Γ b) (hE : E.1.stackTraces = false) (hN : N ≤ 260) : ∀ (S0 S1 : St) (Sv : Nat → St) (ks e : Nat) (R : St) (nc nt ne m n : Nat), Rl S0 R ks e nc nt ne m → V E Γ (200) (2000) 49 [some (.ref b), some (.ref D), some (.ref (D + 141)), some (.ref (D + 141 + 1)), some (.ref (D + 141 + 2)), some (.ref (D + 141 + 3)), some (.int 1), some (.int 0), none] [] (lw E (D + 141) R (dl E D S0 S1 Sv (nI ks) (nI e) 0 (fun _ => 0) (n, wb))) := by
  obtain ⟨t0, ht0⟩ : ∃ t, t = lowN (cellV xs N 0) 52 := ⟨_, rfl⟩
  have ht52 : t0 < 52 := by rw [ht0]; exact low_lt (by omega)
  have k217 : ∀ (S0 S1 : St) (Sv : Nat → St) (ks e : Nat) (R : St) (nc nt ne m n : Nat), Rl S0 R ks e nc nt ne m → V E Γ (1600) (30000) 217 [some (.ref b), some (.ref D), some (.ref (D + 141)), some (.ref (D + 141 + 1)), some (.ref (D + 141 + 2)), some (.ref (D + 141 + 3)), some (.int 1), none, none] [] (lw E (D + 141) R (dl E D S0 S1 Sv (nI ks) (nI e) 0 (fun _ => 0) (n, wb))) := by
    intro S0 S1 Sv ks e R nc nt ne m n hR
    obtain ⟨hI, hJ, h8, hm, hA, he, hks⟩ := id hR
    have h0 : R 0 = nI 3 := hI.1.1.1
    have z0 : S0 0 = nI 3 := (hA.inv hI).1.1.1
    refine v_iload (i := 6) h 217 219 dL_law_217 rfl ld6 ?_
    refine v_if_eq h 219 222 250 dL_law_219 rfl (by decide) (fun h219 => absurd h219 (by decide)) (fun h219 => ?_)
    refine v_aload_n (i := 1) h 222 223 dL_law_222 rfl rfl ld1 ?_
    refine v_bipush (v := 12) h 223 225 dL_law_223 rfl (by decide) ?_
    refine v_callS1h h hZ 225 228 dL_law_225 rfl cb_L_valueOf cs_L_valueOf lk_L_133 (rok (by decide) (by decide)) ⟨by decide, by decide⟩ (t_valueOf2 hD_lw (Cthr.lw (fun w => x_value1 hE (Or.inr (by decide))))) rfl rfl (Nat.le_of_ble_eq_true rfl) (fun n225 hn225 => ?_)
    refine V.nx (k' := 1601) (n' := 30006) (w' := lw E (D + 141) R (dl E D S0 S1 Sv (nI ks) (nI e) 0 (fun _ => 0) (n225, wb))) (by decide) (by decide) rfl ?_
    refine v_ldc h 228 230 dL_law_228 rfl kc_L_44 ?_
    refine v_icmp_ne h 230 233 250 dL_law_230 rfl (by decide) (fun h230 => absurd (by decide) h230) (fun h230 => ?_)
    refine v_aload_n (i := 1) h 233 234 dL_law_233 rfl rfl ld1 ?_
    refine v_iconst (v := 0) h 234 235 dL_law_234 rfl (by decide) ?_
    refine v_aload_n (i := 2) h 235 236 dL_law_235 rfl rfl ld2 ?_
    refine v_iconst (v := nI 0) h 236 237 dL_law_236 rfl (by decide) ?_
    refine v_ldG h 237 238 0 dL_law_237 rfl (by omega) ?_
    rw [h0]
    refine v_callS1h h hZ 238 241 dL_law_238 rfl cb_L_wayOf cs_L_wayOf lk_L_127 (rok (by decide) (by decide)) ⟨by decide, by decide⟩ (t_wayOf1 hD_lw (Cthr.lw (fun w => x_way1b hE (by decide) (by rw [z0]; decide) (Or.inr (by rw [z0]; exact nI_le (Nat.le_refl _) (by omega)))))) rfl rfl (Nat.le_of_ble_eq_true rfl) (fun n238 hn238 => ?_)
    refine V.nx (k' := 1602) (n' := 30012) (w' := lw E (D + 141) R (dl E D S0 S1 Sv (nI ks) (nI e) 0 (fun _ => 0) (n238, wb))) (by decide) (by decide) rfl ?_
    refine v_ldc h 241 243 dL_law_241 rfl kc_L_35 ?_
    refine v_icmp_ne h 243 246 250 dL_law_243 rfl (by decide) (fun h243 => absurd (by decide) h243) (fun h243 => ?_)
    refine v_iconst (v := 1) h 246 247 dL_law_246 rfl (by decide) ?_
    refine v_goto h 247 251 dL_law_247 (by decide) ?_
    exact v_law1 h hL 251 (by decide) (by decide) dL_law_251
  have loop130 : ∀ d i, i + d = 8 + t0 → ∀ (S0 S1 : St) (Sv : Nat → St) (ks e : Nat) (R : St) (nc nt ne m n : Nat), Rl S0 R ks e nc nt ne m → V E Γ (320 + 20 * i) (4400 + 400 * i) 130 [some (.ref b), some (.ref D), some (.ref (D + 141)), some (.ref (D + 141 + 1)), some (.ref (D + 141 + 2)), some (.ref (D + 141 + 3)), some (.int 1), some (.int (nI (8 + t0))), some (.int (nI i))] [] (lw E (D + 141) R (dl E D S0 S1 Sv (nI ks) (nI e) 0 (fun _ => 0) (n, wb))) := by
    intro d
    induction d with
    | zero =>
      intro i hi S0 S1 Sv ks e R nc nt ne m n hR
      obtain rfl : i = 8 + t0 := by omega
      refine v_iload (i := 8) h 130 132 dL_law_130 rfl ld8 ?_
      refine v_iload (i := 7) h 132 134 dL_law_132 rfl ld7 ?_
      refine v_icmp_ge h 134 137 217 dL_law_134 rfl (by decide) (fun h134 => ?_) (fun h134 => absurd (nI_le (a := 8 + t0) (b := (8 + t0)) (by omega) (by omega)) h134)
      exact V.nx (k' := 1600) (n' := 30000) (by omega) (by omega) rfl (V.weakT (k217 S0 S1 Sv ks e R nc nt ne m n hR) (And.intro rfl (And.intro rfl (And.intro rfl (And.intro rfl (And.intro rfl (And.intro rfl (And.intro rfl trivial))))))))
    | succ d ih =>
      intro i hi S0 S1 Sv ks e R nc nt ne m n hR
      have k191 : ∀ (S0 S1 : St) (Sv : Nat → St) (ks e : Nat) (R : St) (nc nt ne m n : Nat), Rl S0 R ks e nc nt ne m → V E Γ (330 + 20 * i) (4600 + 400 * i) 191 [some (.ref b), some (.ref D), some (.ref (D + 141)), some (.ref (D + 141 + 1)), some (.ref (D + 141 + 2)), some (.ref (D + 141 + 3)), none, some (.int (nI (8 + t0))), some (.int (nI i))] [] (lw E (D + 141) R (dl E D S0 S1 Sv (nI ks) (nI e) 0 (fun _ => 0) (n, wb))) := by
        intro S0 S1 Sv ks e R nc nt ne m n hR
        refine v_aload_n (i := 1) h 191 192 dL_law_191 rfl rfl ld1 ?_
        refine v_aload_n (i := 2) h 192 193 dL_law_192 rfl rfl ld2 ?_
        refine v_aload_n (i := 3) h 193 194 dL_law_193 rfl rfl ld3 ?_
        refine v_aload (i := 4) h 194 196 dL_law_194 rfl ld4 ?_
        refine v_aload (i := 5) h 196 198 dL_law_196 rfl ld5 ?_
        refine v_callS1z h hZ 198 201 dL_law_198 rfl cb_L_isSo cs_L_isSo lk_L_145 (rok (by decide) (by decide)) ⟨by show _ + (mR mL_isSo).cells ≤ 600104; simp only [show (mR mL_isSo).cells = 3 from rfl]; omega, by show _ + (mR mL_isSo).slots ≤ 7301314; simp only [show (mR mL_isSo).slots = 18 from rfl]; omega⟩ (k_isSo hE hR) rfl rfl (Nat.le_of_ble_eq_true rfl) (fun n198 hn198 => ?_)
        refine V.nx (k' := 320 + 20 * (i + 1)) (n' := 4400 + 400 * (i + 1)) (w' := lw E (D + 141) R (dl E D S0 S1 Sv (nI ks) (nI e) 0 (fun _ => 0) (n198, wb))) (by show _ + (mR mL_isSo).cells ≤ _; simp only [show (mR mL_isSo).cells = 3 from rfl]; omega) (by show _ + (mR mL_isSo).slots ≤ _; simp only [show (mR mL_isSo).slots = 18 from rfl]; omega) rfl ?_
        refine v_if_eq h 201 204 208 dL_law_201 rfl (by decide) (fun h201 => absurd h201 (by decide)) (fun h201 => ?_)
        refine v_iconst (v := 1) h 204 205 dL_law_204 rfl (by decide) ?_
        refine v_goto h 205 209 dL_law_205 (by decide) ?_
        refine v_istore (i := 6) h 209 211 dL_law_209 rfl (by decide) (so6 rfl) ?_
        refine v_iinc (i := 8) h 211 214 dL_law_211 rfl ld8 (by first | exact iinc1 _ | rfl) (by decide) (so8 rfl) ?_
        refine v_goto h 214 130 dL_law_214 (by decide) ?_
        exact V.weakT (ih (i + 1) (by omega) S0 S1 Sv ks e R nc nt ne m n198 hR) (And.intro rfl (And.intro rfl (And.intro rfl (And.intro rfl (And.intro rfl (And.intro rfl (And.intro rfl (And.intro rfl (And.intro rfl trivial)))))))))
      have k165 : ∀ z : Int32, V E Γ (320 + 20 * i) (4400 + 400 * i) 165 [some (.ref b), some (.ref D), some (.ref (D + 141)), some (.ref (D + 141 + 1)), some (.ref (D + 141 + 2)), some (.ref (D + 141 + 3)), some (.int 1), some (.int (nI (8 + t0))), some (.int (nI i))] [.int z, .ref (D + 141 + 3), .ref (D + 141 + 2), .ref (D + 141 + 1), .ref (D + 141), .ref D] (lw E (D + 141) R (dl E D S0 S1 Sv (nI ks) (nI e) 0 (fun _ => 0) (n, wb))) := by
        intro z
        obtain ⟨S0', S1', Sv', ks', e', R', nc', nt', ne', m', hR', hC⟩ := k_acts (E := E) hE (D := D) (n := n) (S1 := S1) (Sv := Sv) (F := wb) hR z
        refine v_callS1z h hZ 165 168 dL_law_165 rfl cb_L_acts cs_L_acts lk_L_153 (rok (by decide) (by decide)) ⟨by show _ + (mR mL_acts).cells ≤ 600104; simp only [show (mR mL_acts).cells = 1 from rfl]; omega, by show _ + (mR mL_acts).slots ≤ 7301314; simp only [show (mR mL_acts).slots = 6 from rfl]; omega⟩ hC rfl rfl (Nat.le_of_ble_eq_true rfl) (fun n165 hn165 => ?_)
        refine V.nx (k' := 321 + 20 * i) (n' := 4406 + 400 * i) (w' := lw E (D + 141) R' (dl E D S0' S1' Sv' (nI ks') (nI e') 0 (fun _ => 0) (n165, wb))) (by show _ + (mR mL_acts).cells ≤ _; simp only [show (mR mL_acts).cells = 1 from rfl]; omega) (by show _ + (mR mL_acts).slots ≤ _; simp only [show (mR mL_acts).slots = 6 from rfl]; omega) rfl ?_
        refine v_if_eq h 168 171 208 dL_law_168 rfl (by decide) (fun h168 => absurd h168 (by decide)) (fun h168 => ?_)
        refine v_iload (i := 8) h 171 173 dL_law_171 rfl ld8 ?_
        refine v_bipush (v := nI 7) h 173 175 dL_law_173 rfl (by decide) ?_
        refine v_iremN h 175 176 dL_law_175 rfl (by omega) (by omega) (by omega) ?_
        refine v_iconst (v := nI 3) h 176 177 dL_law_176 rfl (by decide) ?_
        refine v_icmp_ne h 177 180 191 dL_law_177 rfl (by decide) (fun h177 => ?_) (fun h177 => ?_)
        · have n177 := mt (nI_eq (a := i % 7) (b := 3) (by omega) (by omega)).mpr h177
          exact V.nx (k' := 330 + 20 * i) (n' := 4600 + 400 * i) (by omega) (by omega) rfl (V.weakT (k191 S0' S1' Sv' ks' e' R' nc' nt' ne' m' n165 hR') (And.intro rfl (And.intro rfl (And.intro rfl (And.intro rfl (And.intro rfl (And.intro rfl (And.intro rfl (And.intro rfl trivial)))))))))
        · have n177 := (nI_eq (a := i % 7) (b := 3) (by omega) (by omega)).mp h177
          refine v_aload_n (i := 1) h 180 181 dL_law_180 rfl rfl ld1 ?_
          refine v_aload_n (i := 2) h 181 182 dL_law_181 rfl rfl ld2 ?_
          refine v_aload_n (i := 3) h 182 183 dL_law_182 rfl rfl ld3 ?_
          refine v_aload (i := 4) h 183 185 dL_law_183 rfl ld4 ?_
          obtain ⟨S2, S3, Sv2, ks2, e2, R2, nc2, nt2, ne2, m2, hR2, hC2⟩ := k_tells (E := E) (D := D) (n := n165) (S1 := S1') (Sv := Sv') (F := wb) hR'
          refine v_callS1z h hZ 185 188 dL_law_185 rfl cb_L_tells cs_L_tells lk_L_157 (rok (by decide) (by decide)) ⟨by show _ + (mR mL_tells).cells ≤ 600104; simp only [show (mR mL_tells).cells = 5 from rfl]; omega, by show _ + (mR mL_tells).slots ≤ 7301314; simp only [show (mR mL_tells).slots = 131 from rfl]; omega⟩ hC2 rfl rfl (Nat.le_of_ble_eq_true rfl) (fun n185 hn185 => ?_)
          refine V.nx (k' := 326 + 20 * i) (n' := 4537 + 400 * i) (w' := lw E (D + 141) R2 (dl E D S2 S3 Sv2 (nI ks2) (nI e2) 0 (fun _ => 0) (n185, wb))) (by show _ + (mR mL_tells).cells ≤ _; simp only [show (mR mL_tells).cells = 5 from rfl]; omega) (by show _ + (mR mL_tells).slots ≤ _; simp only [show (mR mL_tells).slots = 131 from rfl]; omega) rfl ?_
          refine v_if_eq h 188 191 208 dL_law_188 rfl (by decide) (fun h188 => absurd h188 (by decide)) (fun h188 => ?_)
          exact V.nx (k' := 330 + 20 * i) (n' := 4600 + 400 * i) (by omega) (by omega) rfl (V.weakT (k191 S2 S3 Sv2 ks2 e2 R2 nc2 nt2 ne2 m2 n185 hR2) (And.intro rfl (And.intro rfl (And.intro rfl (And.intro rfl (And.intro rfl (And.intro rfl (And.intro rfl (And.intro rfl trivial)))))))))
      refine v_iload (i := 8) h 130 132 dL_law_130 rfl ld8 ?_
      refine v_iload (i := 7) h 132 134 dL_law_132 rfl ld7 ?_
      refine v_icmp_ge h 134 137 217 dL_law_134 rfl (by decide) (fun h134 => absurd h134 (nI_ge (a := i) (b := 8 + t0) (by omega) (by omega))) (fun h134 => ?_)
      refine v_iload (i := 6) h 137 139 dL_law_137 rfl ld6 ?_
      refine v_if_eq h 139 142 217 dL_law_139 rfl (by decide) (fun h139 => absurd h139 (by decide)) (fun h139 => ?_)
      refine v_aload_n (i := 1) h 142 143 dL_law_142 rfl rfl ld1 ?_
      refine v_aload_n (i := 2) h 143 144 dL_law_143 rfl rfl ld2 ?_
      refine v_aload_n (i := 3) h 144 145 dL_law_144 rfl rfl ld3 ?_
      refine v_aload (i := 4) h 145 147 dL_law_145 rfl ld4 ?_
      refine v_aload (i := 5) h 147 149 dL_law_147 rfl ld5 ?_
      refine v_aload_n (i := 0) h 149 150 dL_law_149 rfl rfl ld0 ?_
      refine v_bipush (v := nI 7) h 150 152 dL_law_150 rfl (by decide) ?_
      refine v_iload (i := 8) h 152 154 dL_law_152 rfl ld8 ?_
      refine v_iaddN h 154 155 dL_law_154 rfl ?_
      refine v_callS1s h hX 155 158 dL_law_155 rfl cb_L_cell cs_L_cell lk_L_149 (rok (by decide) (by decide)) ⟨rfl, rfl⟩ ⟨by show _ ≤ 600104; omega, by show _ ≤ 7301314; omega⟩ (k_cell (by omega) (by omega)) rfl rfl (Nat.le_of_ble_eq_true rfl) ?_
      refine v_sipush (v := nI 7919) h 158 161 dL_law_158 rfl (by decide) ?_
      refine v_iload (i := 8) h 161 163 dL_law_161 rfl ld8 ?_
      refine v_imulN h 163 164 dL_law_163 rfl ?_
      refine v_ixor h 164 165 dL_law_164 rfl ?_
      exact k165 _
  have k112 : ∀ (S0 S1 : St) (Sv : Nat → St) (ks e : Nat) (R : St) (nc nt ne m n : Nat), Rl S0 R ks e nc nt ne m → V E Γ (320) (4400) 112 [some (.ref b), some (.ref D), some (.ref (D + 141)), some (.ref (D + 141 + 1)), some (.ref (D + 141 + 2)), some (.ref (D + 141 + 3)), some (.int 1), none, none] [] (lw E (D + 141) R (dl E D S0 S1 Sv (nI ks) (nI e) 0 (fun _ => 0) (n, wb))) := by
    intro S0 S1 Sv ks e R nc nt ne m n hR
    refine v_bipush (v := nI 8) h 112 114 dL_law_112 rfl (by decide) ?_
    refine v_aload_n (i := 0) h 114 115 dL_law_114 rfl rfl ld0 ?_
    refine v_iconst (v := nI 0) h 115 116 dL_law_115 rfl (by decide) ?_
    refine v_callS1s h hX 116 119 dL_law_116 rfl cb_L_cell cs_L_cell lk_L_149 (rok (by decide) (by decide)) ⟨rfl, rfl⟩ ⟨by show _ ≤ 600104; omega, by show _ ≤ 7301314; omega⟩ (k_cell (by omega) (by omega)) rfl rfl (Nat.le_of_ble_eq_true rfl) ?_
    refine v_bipush (v := nI 52) h 119 121 dL_law_119 rfl (by decide) ?_
    refine v_callS1 h 121 124 dL_law_121 rfl cb_L_low cs_L_low lk_L_24 (rok (by decide) (by decide)) ⟨rfl, rfl⟩ ⟨by show _ ≤ 600104; omega, by show _ ≤ 7301314; omega⟩ (k_low _ (by omega) (by omega)) rfl rfl (Nat.le_of_ble_eq_true rfl) ?_
    rw [← ht0]
    refine v_iaddN h 124 125 dL_law_124 rfl ?_
    refine v_istore (i := 7) h 125 127 dL_law_125 rfl (by decide) (so7 rfl) ?_
    refine v_iconst (v := 0) h 127 128 dL_law_127 rfl (by decide) ?_
    refine v_istore (i := 8) h 128 130 dL_law_128 rfl (by decide) (so8 rfl) ?_
    exact V.nx (k' := 320 + 20 * 0) (n' := 4400 + 400 * 0) (by omega) (by omega) rfl (V.weakT (loop130 (8 + t0) 0 (by omega) S0 S1 Sv ks e R nc nt ne m n hR) (And.intro rfl (And.intro rfl (And.intro rfl (And.intro rfl (And.intro rfl (And.intro rfl (And.intro rfl (And.intro rfl (And.intro rfl trivial))))))))))
  have loop49 : ∀ d i, i + d = 6 → ∀ (S0 S1 : St) (Sv : Nat → St) (ks e : Nat) (R : St) (nc nt ne m n : Nat), Rl S0 R ks e nc nt ne m → V E Γ (200 + 20 * i) (2000 + 400 * i) 49 [some (.ref b), some (.ref D), some (.ref (D + 141)), some (.ref (D + 141 + 1)), some (.ref (D + 141 + 2)), some (.ref (D + 141 + 3)), some (.int 1), some (.int (nI i)), none] [] (lw E (D + 141) R (dl E D S0 S1 Sv (nI ks) (nI e) 0 (fun _ => 0) (n, wb))) := by
    intro d
    induction d with
    | zero =>
      intro i hi S0 S1 Sv ks e R nc nt ne m n hR
      obtain rfl : i = 6 := by omega
      refine v_iload (i := 7) h 49 51 dL_law_49 rfl ld7 ?_
      refine v_bipush (v := nI 6) h 51 53 dL_law_51 rfl (by decide) ?_
      refine v_icmp_ge h 53 56 112 dL_law_53 rfl (by decide) (fun h53 => ?_) (fun h53 => absurd (nI_le (a := 6) (b := 6) (by omega) (by omega)) h53)
      exact V.nx (k' := 320) (n' := 4400) (by omega) (by omega) rfl (V.weakT (k112 S0 S1 Sv ks e R nc nt ne m n hR) (And.intro rfl (And.intro rfl (And.intro rfl (And.intro rfl (And.intro rfl (And.intro rfl (And.intro rfl trivial))))))))
    | succ d ih =>
      intro i hi S0 S1 Sv ks e R nc nt ne m n hR
      have k101 : ∀ z : Int32, V E Γ (200 + 20 * i) (2000 + 400 * i) 101 [some (.ref b), some (.ref D), some (.ref (D + 141)), some (.ref (D + 141 + 1)), some (.ref (D + 141 + 2)), some (.ref (D + 141 + 3)), some (.int 1), some (.int (nI i)), none] [.int z, .ref (D + 141 + 3), .ref (D + 141 + 2), .ref (D + 141 + 1), .ref (D + 141), .ref D] (lw E (D + 141) R (dl E D S0 S1 Sv (nI ks) (nI e) 0 (fun _ => 0) (n, wb))) := by
        intro z
        obtain ⟨S0', S1', Sv', ks', e', R', nc', nt', ne', m', hR', hC⟩ := k_acts (E := E) hE (D := D) (n := n) (S1 := S1) (Sv := Sv) (F := wb) hR z
        refine v_callS1z h hZ 101 104 dL_law_101 rfl cb_L_acts cs_L_acts lk_L_153 (rok (by decide) (by decide)) ⟨by show _ + (mR mL_acts).cells ≤ 600104; simp only [show (mR mL_acts).cells = 1 from rfl]; omega, by show _ + (mR mL_acts).slots ≤ 7301314; simp only [show (mR mL_acts).slots = 6 from rfl]; omega⟩ hC rfl rfl (Nat.le_of_ble_eq_true rfl) (fun n101 hn101 => ?_)
        refine V.nx (k' := 201 + 20 * i) (n' := 2006 + 400 * i) (w' := lw E (D + 141) R' (dl E D S0' S1' Sv' (nI ks') (nI e') 0 (fun _ => 0) (n101, wb))) (by show _ + (mR mL_acts).cells ≤ _; simp only [show (mR mL_acts).cells = 1 from rfl]; omega) (by show _ + (mR mL_acts).slots ≤ _; simp only [show (mR mL_acts).slots = 6 from rfl]; omega) rfl ?_
        refine v_istore (i := 6) h 104 106 dL_law_104 rfl (by decide) (so6 rfl) ?_
        refine v_iinc (i := 7) h 106 109 dL_law_106 rfl ld7 (by first | exact iinc1 _ | rfl) (by decide) (so7 rfl) ?_
        refine v_goto h 109 49 dL_law_109 (by decide) ?_
        exact V.nx (k' := 200 + 20 * (i + 1)) (n' := 2000 + 400 * (i + 1)) (by omega) (by omega) rfl (V.weakT (ih (i + 1) (by omega) S0' S1' Sv' ks' e' R' nc' nt' ne' m' n101 hR') (And.intro rfl (And.intro rfl (And.intro rfl (And.intro rfl (And.intro rfl (And.intro rfl (And.intro rfl (And.intro rfl trivial)))))))))
      refine v_iload (i := 7) h 49 51 dL_law_49 rfl ld7 ?_
      refine v_bipush (v := nI 6) h 51 53 dL_law_51 rfl (by decide) ?_
      refine v_icmp_ge h 53 56 112 dL_law_53 rfl (by decide) (fun h53 => absurd h53 (nI_ge (a := i) (b := 6) (by omega) (by omega))) (fun h53 => ?_)
      refine v_iload (i := 6) h 56 58 dL_law_56 rfl ld6 ?_
      refine v_if_eq h 58 61 112 dL_law_58 rfl (by decide) (fun h58 => absurd h58 (by decide)) (fun h58 => ?_)
      refine v_aload_n (i := 1) h 61 62 dL_law_61 rfl rfl ld1 ?_
      refine v_aload_n (i := 2) h 62 63 dL_law_62 rfl rfl ld2 ?_
      refine v_aload_n (i := 3) h 63 64 dL_law_63 rfl rfl ld3 ?_
      refine v_aload (i := 4) h 64 66 dL_law_64 rfl ld4 ?_
      refine v_aload (i := 5) h 66 68 dL_law_66 rfl ld5 ?_
      refine v_aload_n (i := 0) h 68 69 dL_law_68 rfl rfl ld0 ?_
      refine v_iconst (v := nI 1) h 69 70 dL_law_69 rfl (by decide) ?_
      refine v_iload (i := 7) h 70 72 dL_law_70 rfl ld7 ?_
      refine v_iaddN h 72 73 dL_law_72 rfl ?_
      refine v_callS1s h hX 73 76 dL_law_73 rfl cb_L_cell cs_L_cell lk_L_149 (rok (by decide) (by decide)) ⟨rfl, rfl⟩ ⟨by show _ ≤ 600104; omega, by show _ ≤ 7301314; omega⟩ (k_cell (by omega) (by omega)) rfl rfl (Nat.le_of_ble_eq_true rfl) ?_
      refine v_ldc h 76 78 dL_law_76 rfl kc_L_8 ?_
      refine v_iand h 78 79 dL_law_78 rfl ?_
      refine v_sipush (v := 640) h 79 82 dL_law_79 rfl (by decide) ?_
      refine v_idiv h 82 83 dL_law_82 rfl (by decide) ?_
      refine v_sipush (v := 640) h 83 86 dL_law_83 rfl (by decide) ?_
      refine v_imul h 86 87 dL_law_86 rfl ?_
      refine v_iload (i := 7) h 87 89 dL_law_87 rfl ld7 ?_
      refine v_iconst (v := nI 5) h 89 90 dL_law_89 rfl (by decide) ?_
      refine v_icmp_ge h 90 93 98 dL_law_90 rfl (by decide) (fun h90 => ?_) (fun h90 => ?_)
      · have n90 := (nI_leI (a := 5) (b := i) (by omega) (by omega)).mp h90
        refine v_bipush (v := 6) h 98 100 dL_law_98 rfl (by decide) ?_
        refine v_iadd h 100 101 dL_law_100 rfl ?_
        exact k101 _
      · have n90 := mt (nI_leI (a := 5) (b := i) (by omega) (by omega)).mpr h90
        refine v_bipush (v := 13) h 93 95 dL_law_93 rfl (by decide) ?_
        refine v_goto h 95 100 dL_law_95 (by decide) ?_
        refine v_iadd h 100 101 dL_law_100 rfl ?_
        exact k101 _
  intro S0 S1 Sv ks e R nc nt ne m n hR
  exact V.nx (k' := 200 + 20 * 0) (n' := 2000 + 400 * 0) (by omega) (by omega) rfl (V.weakT (loop49 6 0 (by omega) S0 S1 Sv ks e R nc nt ne m n hR) (And.intro rfl (And.intro rfl (And.intro rfl (And.intro rfl (And.intro rfl (And.intro rfl (And.intro rfl (And.intro rfl trivial)))))))))

