/-! THE LAW'S MINUTE -/
theorem if9 {x a b : Int32} : (if x ≤ 9 then a else b) = (if x < 10 then a else b) := by
  have e : (x ≤ 9) = (x < 10) := by
    rw [Int32.le_iff_toInt_le, Int32.lt_iff_toInt_lt, show (9 : Int32).toInt = 9 by decide, show (10 : Int32).toInt = 10 by decide]
    exact propext (by omega)
  by_cases h : x ≤ 9
  · rw [if_pos h, if_pos (by rw [← e]; exact h)]
  · rw [if_neg h, if_neg (by rw [← e]; exact h)]
set_option maxRecDepth 100000 in
set_option maxHeartbeats 4000000 in
theorem m_rest {E : EE} {Γ : Cx} {B : Nat} {w : Wo} {sp nc nt ne m t : Nat} (h : OkB E Γ mL_minute RL) {Z : St} (IA : Inv Z sp nc nt ne m) (h8 : nc ≤ 8) (ht : t < nt) (y0 : Z (125 + 8 * t + 3) = 0) (z3 : Z (125 + 8 * t + 2) = 3) (z4 : Z (125 + 8 * t + 4) = -1) (kk : V E Γ 0 0 499 [some (.ref B), some (.ref (B + 1)), some (.ref (B + 2)), some (.ref (B + 3)), some (.int (nI t)), none, none, none] [] (lw E B (upd (restS Z t) 9 (nI (m + 1))) w)) : V E Γ 0 0 165 [some (.ref B), some (.ref (B + 1)), some (.ref (B + 2)), some (.ref (B + 3)), some (.int (nI t)), some (.int (nI (8 * t))), none, none] [] (lw E B (upd Z 9 (nI (m + 1))) w) := by
  have hnt := IA.n4
  obtain ⟨k, hk, e1⟩ := (IA.2.2.2 t ht).2.1
  refine v_bipush (v := 8) h 165 167 dL_minute_165 rfl (by decide) ?_
  refine v_aload_n (i := 2) h 167 168 dL_minute_167 rfl rfl ld2 ?_
  refine v_iload (i := 5) h 168 170 dL_minute_168 rfl ld5 ?_
  refine v_iconst (v := nI 4) h 170 171 dL_minute_170 rfl (by decide) ?_
  refine v_iaddN h 171 172 dL_minute_171 rfl ?_
  refine v_ldQ h 172 173 t 4 dL_minute_172 rfl (by omega) (by omega) ?_
  simp (disch := omega) only [upd_ne, upd_self]
  rw [z4]
  refine v_if_ge h 173 176 180 dL_minute_173 rfl (by decide) (fun h173 => absurd h173 (by decide)) (fun h173 => ?_)
  refine v_iconst (v := 0) h 176 177 dL_minute_176 rfl (by decide) ?_
  refine v_goto h 177 186 dL_minute_177 (by decide) ?_
  refine v_imul h 186 187 dL_minute_186 rfl ?_
  refine v_istore (i := 6) h 187 189 dL_minute_187 rfl (by decide) (so6 rfl) ?_
  refine v_aload_n (i := 2) h 189 190 dL_minute_189 rfl rfl ld2 ?_
  refine v_iload (i := 5) h 190 192 dL_minute_190 rfl ld5 ?_
  refine v_iconst (v := nI 2) h 192 193 dL_minute_192 rfl (by decide) ?_
  refine v_iaddN h 193 194 dL_minute_193 rfl ?_
  refine v_ldQ h 194 195 t 2 dL_minute_194 rfl (by omega) (by omega) ?_
  simp (disch := omega) only [upd_ne, upd_self]
  rw [z3]
  refine v_iconst (v := 1) h 195 196 dL_minute_195 rfl (by decide) ?_
  refine v_icmp_ne h 196 199 244 dL_minute_196 rfl (by decide) (fun h196 => ?_) (fun h196 => absurd h196 (by decide))
  refine v_aload_n (i := 2) h 244 245 dL_minute_244 rfl rfl ld2 ?_
  refine v_iload (i := 5) h 245 247 dL_minute_245 rfl ld5 ?_
  refine v_iconst (v := nI 2) h 247 248 dL_minute_247 rfl (by decide) ?_
  refine v_iaddN h 248 249 dL_minute_248 rfl ?_
  refine v_ldQ h 249 250 t 2 dL_minute_249 rfl (by omega) (by omega) ?_
  simp (disch := omega) only [upd_ne, upd_self]
  rw [z3]
  refine v_iconst (v := 2) h 250 251 dL_minute_250 rfl (by decide) ?_
  refine v_icmp_ne h 251 254 461 dL_minute_251 rfl (by decide) (fun h251 => ?_) (fun h251 => absurd h251 (by decide))
  refine v_aload_n (i := 2) h 461 462 dL_minute_461 rfl rfl ld2 ?_
  refine v_iload (i := 5) h 462 464 dL_minute_462 rfl ld5 ?_
  refine v_iconst (v := nI 1) h 464 465 dL_minute_464 rfl (by decide) ?_
  refine v_iaddN h 465 466 dL_minute_465 rfl ?_
  refine v_dup2 h 466 467 dL_minute_466 rfl rfl rfl ?_
  refine v_ldQ h 467 468 t 1 dL_minute_467 rfl (by omega) (by omega) ?_
  simp (disch := omega) only [upd_ne, upd_self]
  rw [e1]
  refine v_aload_n (i := 2) h 468 469 dL_minute_468 rfl rfl ld2 ?_
  refine v_iload (i := 5) h 469 471 dL_minute_469 rfl ld5 ?_
  refine v_iconst (v := nI 1) h 471 472 dL_minute_471 rfl (by decide) ?_
  refine v_iaddN h 472 473 dL_minute_472 rfl ?_
  refine v_ldQ h 473 474 t 1 dL_minute_473 rfl (by omega) (by omega) ?_
  simp (disch := omega) only [upd_ne, upd_self]
  rw [e1]
  refine v_bipush (v := 6) h 474 476 dL_minute_474 rfl (by decide) ?_
  refine v_icmp_le h 476 479 484 dL_minute_476 rfl (by decide) (fun h476 => ?_) (fun h476 => ?_)
  · refine v_aload_n (i := 2) h 484 485 dL_minute_484 rfl rfl ld2 ?_
    refine v_iload (i := 5) h 485 487 dL_minute_485 rfl ld5 ?_
    refine v_iconst (v := nI 1) h 487 488 dL_minute_487 rfl (by decide) ?_
    refine v_iaddN h 488 489 dL_minute_488 rfl ?_
    refine v_ldQ h 489 490 t 1 dL_minute_489 rfl (by omega) (by omega) ?_
    simp (disch := omega) only [upd_ne, upd_self]
    rw [e1]
    refine v_isub h 490 491 dL_minute_490 rfl ?_
    refine v_stQ h 491 492 t 1 dL_minute_491 rfl (by omega) (by omega) ?_
    refine v_aload_n (i := 2) h 492 493 dL_minute_492 rfl rfl ld2 ?_
    refine v_iload (i := 5) h 493 495 dL_minute_493 rfl ld5 ?_
    refine v_iconst (v := nI 2) h 495 496 dL_minute_495 rfl (by decide) ?_
    refine v_iaddN h 496 497 dL_minute_496 rfl ?_
    refine v_iconst (v := 0) h 497 498 dL_minute_497 rfl (by decide) ?_
    refine v_stQ h 498 499 t 2 dL_minute_498 rfl (by omega) (by omega) ?_
    have k6 : k ≤ 6 := (nI_leI (a := k) (b := 6) (by omega) (by omega)).mp h476
    have sl : nI k - nI k = nI (k - 6) := by rw [Int32.sub_self, show k - 6 = 0 by omega]; rfl
    rw [sl]
    refine V.world (congrArg (fun z => lw E B z w) ?_) (V.weakT kk (And.intro rfl (And.intro rfl (And.intro rfl (And.intro rfl (And.intro rfl trivial))))))
    rw [restS, idleS_ne (by omega), e1, sub6 k (by omega), idleS]
    funext i
    by_cases q0 : i = 9
    · subst q0
      simp (disch := omega) only [upd_self, upd_ne, y0, z4]
    by_cases q1 : i = 125 + 8 * t + 1
    · subst q1
      simp (disch := omega) only [upd_self, upd_ne, y0, z4]
    by_cases q2 : i = 125 + 8 * t + 2
    · subst q2
      simp (disch := omega) only [upd_self, upd_ne, y0, z4]
    by_cases q3 : i = 125 + 8 * t + 3
    · subst q3
      simp (disch := omega) only [upd_self, upd_ne, y0, z4]
    by_cases q4 : i = 125 + 8 * t + 4
    · subst q4
      simp (disch := omega) only [upd_self, upd_ne, y0, z4]
    simp (disch := omega) only [upd_ne]
  · refine v_bipush (v := 6) h 479 481 dL_minute_479 rfl (by decide) ?_
    refine v_goto h 481 490 dL_minute_481 (by decide) ?_
    refine v_isub h 490 491 dL_minute_490 rfl ?_
    refine v_stQ h 491 492 t 1 dL_minute_491 rfl (by omega) (by omega) ?_
    refine v_aload_n (i := 2) h 492 493 dL_minute_492 rfl rfl ld2 ?_
    refine v_iload (i := 5) h 493 495 dL_minute_493 rfl ld5 ?_
    refine v_iconst (v := nI 2) h 495 496 dL_minute_495 rfl (by decide) ?_
    refine v_iaddN h 496 497 dL_minute_496 rfl ?_
    refine v_iconst (v := 0) h 497 498 dL_minute_497 rfl (by decide) ?_
    refine v_stQ h 498 499 t 2 dL_minute_498 rfl (by omega) (by omega) ?_
    have k6 : ¬ k ≤ 6 := mt (nI_leI (a := k) (b := 6) (by omega) (by omega)).mpr h476
    have sl : nI k - 6 = nI (k - 6) := pk_sub (a := k) (b := 6) (by omega)
    rw [sl]
    refine V.world (congrArg (fun z => lw E B z w) ?_) (V.weakT kk (And.intro rfl (And.intro rfl (And.intro rfl (And.intro rfl (And.intro rfl trivial))))))
    rw [restS, idleS_ne (by omega), e1, sub6 k (by omega), idleS]
    funext i
    by_cases q0 : i = 9
    · subst q0
      simp (disch := omega) only [upd_self, upd_ne, y0, z4]
    by_cases q1 : i = 125 + 8 * t + 1
    · subst q1
      simp (disch := omega) only [upd_self, upd_ne, y0, z4]
    by_cases q2 : i = 125 + 8 * t + 2
    · subst q2
      simp (disch := omega) only [upd_self, upd_ne, y0, z4]
    by_cases q3 : i = 125 + 8 * t + 3
    · subst q3
      simp (disch := omega) only [upd_self, upd_ne, y0, z4]
    by_cases q4 : i = 125 + 8 * t + 4
    · subst q4
      simp (disch := omega) only [upd_self, upd_ne, y0, z4]
    simp (disch := omega) only [upd_ne]

set_option maxRecDepth 100000 in
set_option maxHeartbeats 4000000 in
theorem m_bring {E : EE} {Γ : Cx} {B : Nat} {w : Wo} {sp nc nt ne m t : Nat} (h : OkB E Γ mL_minute RL) {Z : St} {c : Nat} (IA : Inv Z sp nc nt ne m) (h8 : nc ≤ 8) (ht : t < nt) (hc : c < nc) (z1 : Z (125 + 8 * t + 2) = 1) (e4 : Z (125 + 8 * t + 4) = nI c) (kk : V E Γ 0 0 499 [some (.ref B), some (.ref (B + 1)), some (.ref (B + 2)), some (.ref (B + 3)), some (.int (nI t)), none, none, none] [] (lw E B (upd (bringS Z nt t c (nI t)) 9 (nI (m + 1))) w)) : V E Γ 0 0 165 [some (.ref B), some (.ref (B + 1)), some (.ref (B + 2)), some (.ref (B + 3)), some (.int (nI t)), some (.int (nI (8 * t))), none, none] [] (lw E B (upd Z 9 (nI (m + 1))) w) := by
  have hnt := IA.n4
  have hw : wkS (upd (upd (upd Z 9 (nI (m + 1))) (125 + 8 * t + 0) (Z (13 + 8 * c + 0))) (125 + 8 * t + 2) 0) nt c (nI t) (Z (125 + 8 * t + 1)) = wkS (upd Z (125 + 8 * t + 0) (Z (13 + 8 * c + 0))) nt c (nI t) (Z (125 + 8 * t + 1)) := by
    refine wk_eq ?_ ?_ (fun i hi hne => ?_)
    · simp (disch := omega) only [upd_ne]
    · simp (disch := omega) only [upd_ne]
    · have : i ≠ t := fun q => hne (congrArg nI q)
      refine ⟨?_, ?_⟩
      · simp (disch := omega) only [upd_ne]
      · simp (disch := omega) only [upd_ne]
  refine v_bipush (v := nI 8) h 165 167 dL_minute_165 rfl (by decide) ?_
  refine v_aload_n (i := 2) h 167 168 dL_minute_167 rfl rfl ld2 ?_
  refine v_iload (i := 5) h 168 170 dL_minute_168 rfl ld5 ?_
  refine v_iconst (v := nI 4) h 170 171 dL_minute_170 rfl (by decide) ?_
  refine v_iaddN h 171 172 dL_minute_171 rfl ?_
  refine v_ldQ h 172 173 t 4 dL_minute_172 rfl (by omega) (by omega) ?_
  simp (disch := omega) only [upd_ne, upd_self]
  rw [e4]
  refine v_if_ge h 173 176 180 dL_minute_173 rfl (by decide) (fun h173 => ?_) (fun h173 => absurd (nI_le (a := 0) (b := c) (by omega) (by omega)) h173)
  refine v_aload_n (i := 2) h 180 181 dL_minute_180 rfl rfl ld2 ?_
  refine v_iload (i := 5) h 181 183 dL_minute_181 rfl ld5 ?_
  refine v_iconst (v := nI 4) h 183 184 dL_minute_183 rfl (by decide) ?_
  refine v_iaddN h 184 185 dL_minute_184 rfl ?_
  refine v_ldQ h 185 186 t 4 dL_minute_185 rfl (by omega) (by omega) ?_
  simp (disch := omega) only [upd_ne, upd_self]
  rw [e4]
  refine v_imulN h 186 187 dL_minute_186 rfl ?_
  refine v_istore (i := 6) h 187 189 dL_minute_187 rfl (by decide) (so6 rfl) ?_
  refine v_aload_n (i := 2) h 189 190 dL_minute_189 rfl rfl ld2 ?_
  refine v_iload (i := 5) h 190 192 dL_minute_190 rfl ld5 ?_
  refine v_iconst (v := nI 2) h 192 193 dL_minute_192 rfl (by decide) ?_
  refine v_iaddN h 193 194 dL_minute_193 rfl ?_
  refine v_ldQ h 194 195 t 2 dL_minute_194 rfl (by omega) (by omega) ?_
  simp (disch := omega) only [upd_ne, upd_self]
  rw [z1]
  refine v_iconst (v := 1) h 195 196 dL_minute_195 rfl (by decide) ?_
  refine v_icmp_ne h 196 199 244 dL_minute_196 rfl (by decide) (fun h196 => absurd (by decide) h196) (fun h196 => ?_)
  refine v_aload_n (i := 2) h 199 200 dL_minute_199 rfl rfl ld2 ?_
  refine v_iload (i := 5) h 200 202 dL_minute_200 rfl ld5 ?_
  refine v_aload_n (i := 1) h 202 203 dL_minute_202 rfl rfl ld1 ?_
  refine v_iload (i := 6) h 203 205 dL_minute_203 rfl ld6 ?_
  refine v_ldE0 h 205 206 c dL_minute_205 rfl (by omega) ?_
  simp (disch := omega) only [upd_ne, upd_self]
  refine v_stQ0 h 206 207 t dL_minute_206 rfl (by omega) ?_
  refine v_aload_n (i := 2) h 207 208 dL_minute_207 rfl rfl ld2 ?_
  refine v_iload (i := 5) h 208 210 dL_minute_208 rfl ld5 ?_
  refine v_iconst (v := nI 2) h 210 211 dL_minute_210 rfl (by decide) ?_
  refine v_iaddN h 211 212 dL_minute_211 rfl ?_
  refine v_iconst (v := 0) h 212 213 dL_minute_212 rfl (by decide) ?_
  refine v_stQ h 213 214 t 2 dL_minute_213 rfl (by omega) (by omega) ?_
  refine v_aload_n (i := 2) h 214 215 dL_minute_214 rfl rfl ld2 ?_
  refine v_iload (i := 5) h 215 217 dL_minute_215 rfl ld5 ?_
  refine v_iconst (v := nI 3) h 217 218 dL_minute_217 rfl (by decide) ?_
  refine v_iaddN h 218 219 dL_minute_218 rfl ?_
  refine v_aload_n (i := 0) h 219 220 dL_minute_219 rfl rfl ld0 ?_
  refine v_aload_n (i := 1) h 220 221 dL_minute_220 rfl rfl ld1 ?_
  refine v_aload_n (i := 2) h 221 222 dL_minute_221 rfl rfl ld2 ?_
  refine v_aload_n (i := 2) h 222 223 dL_minute_222 rfl rfl ld2 ?_
  refine v_iload (i := 5) h 223 225 dL_minute_223 rfl ld5 ?_
  refine v_iconst (v := nI 4) h 225 226 dL_minute_225 rfl (by decide) ?_
  refine v_iaddN h 226 227 dL_minute_226 rfl ?_
  refine v_ldQ h 227 228 t 4 dL_minute_227 rfl (by omega) (by omega) ?_
  simp (disch := omega) only [upd_ne, upd_self]
  rw [e4]
  refine v_iload (i := 4) h 228 230 dL_minute_228 rfl ld4 ?_
  refine v_callS1 h 230 233 dL_minute_230 rfl cb_L_work cs_L_work lk_L_15 (rok (by decide) (by decide)) ⟨rfl, rfl⟩ ⟨Nat.zero_le _, Nat.zero_le _⟩ (k_work (c := c) (t := t) hnt (by omega) ht (by simp (disch := omega) only [upd_ne]; exact IA.c8) (by simp (disch := omega) only [upd_ne]; exact (IA.2.2.1 c hc).2.1) (by simp (disch := omega) only [upd_ne]; exact (IA.2.2.2 t ht).2.1)) rfl rfl (Nat.le_of_ble_eq_true rfl) ?_
  refine v_stQ h 233 234 t 3 dL_minute_233 rfl (by omega) (by omega) ?_
  refine v_aload_n (i := 2) h 234 235 dL_minute_234 rfl rfl ld2 ?_
  refine v_iload (i := 5) h 235 237 dL_minute_235 rfl ld5 ?_
  refine v_iconst (v := nI 2) h 237 238 dL_minute_237 rfl (by decide) ?_
  refine v_iaddN h 238 239 dL_minute_238 rfl ?_
  refine v_iconst (v := 2) h 239 240 dL_minute_239 rfl (by decide) ?_
  refine v_stQ h 240 241 t 2 dL_minute_240 rfl (by omega) (by omega) ?_
  refine v_goto h 241 499 dL_minute_241 (by decide) ?_
  simp (disch := omega) only [upd_ne, upd_self]
  rw [hw]
  refine V.world (congrArg (fun z => lw E B z w) ?_) (V.weakT kk (And.intro rfl (And.intro rfl (And.intro rfl (And.intro rfl (And.intro rfl trivial))))))
  unfold bringS
  funext i
  by_cases q0 : i = 9
  · subst q0
    simp (disch := omega) only [upd_self, upd_ne]
  by_cases q1 : i = 125 + 8 * t + 0
  · subst q1
    simp (disch := omega) only [upd_self, upd_ne]
  by_cases q2 : i = 125 + 8 * t + 2
  · subst q2
    simp (disch := omega) only [upd_self, upd_ne]
  by_cases q3 : i = 125 + 8 * t + 3
  · subst q3
    simp (disch := omega) only [upd_self, upd_ne]
  simp (disch := omega) only [upd_ne]

set_option maxRecDepth 100000 in
set_option maxHeartbeats 4000000 in
theorem m_fin {E : EE} {Γ : Cx} {B : Nat} {w : Wo} {sp nc nt ne m t : Nat} (h : OkB E Γ mL_minute RL) {Z : St} {c : Nat} (IA : Inv Z sp nc nt ne m) (hJ : ∀ c, c < nc → mn1 (Z (13 + 8 * c + 7))) (hm : m + 1 < 2 ^ 30) (h8 : nc ≤ 8) (ht : t < nt) (hc : c < nc) (hne : ne < 14) (z2 : Z (125 + 8 * t + 2) = 2) (e4 : Z (125 + 8 * t + 4) = nI c) (kk : V E Γ 0 0 499 [some (.ref B), some (.ref (B + 1)), some (.ref (B + 2)), some (.ref (B + 3)), some (.int (nI t)), none, none, none] [] (lw E B (upd (finS Z t c) 9 (nI (m + 1))) w)) : V E Γ 0 0 165 [some (.ref B), some (.ref (B + 1)), some (.ref (B + 2)), some (.ref (B + 3)), some (.int (nI t)), some (.int (nI (8 * t))), none, none] [] (lw E B (upd Z 9 (nI (m + 1))) w) := by
  have hnt := IA.n4
  refine v_bipush (v := nI 8) h 165 167 dL_minute_165 rfl (by decide) ?_
  refine v_aload_n (i := 2) h 167 168 dL_minute_167 rfl rfl ld2 ?_
  refine v_iload (i := 5) h 168 170 dL_minute_168 rfl ld5 ?_
  refine v_iconst (v := nI 4) h 170 171 dL_minute_170 rfl (by decide) ?_
  refine v_iaddN h 171 172 dL_minute_171 rfl ?_
  refine v_ldQ h 172 173 t 4 dL_minute_172 rfl (by omega) (by omega) ?_
  simp (disch := omega) only [upd_ne, upd_self]
  rw [e4]
  refine v_if_ge h 173 176 180 dL_minute_173 rfl (by decide) (fun h173 => ?_) (fun h173 => absurd (nI_le (a := 0) (b := c) (by omega) (by omega)) h173)
  refine v_aload_n (i := 2) h 180 181 dL_minute_180 rfl rfl ld2 ?_
  refine v_iload (i := 5) h 181 183 dL_minute_181 rfl ld5 ?_
  refine v_iconst (v := nI 4) h 183 184 dL_minute_183 rfl (by decide) ?_
  refine v_iaddN h 184 185 dL_minute_184 rfl ?_
  refine v_ldQ h 185 186 t 4 dL_minute_185 rfl (by omega) (by omega) ?_
  simp (disch := omega) only [upd_ne, upd_self]
  rw [e4]
  refine v_imulN h 186 187 dL_minute_186 rfl ?_
  refine v_istore (i := 6) h 187 189 dL_minute_187 rfl (by decide) (so6 rfl) ?_
  refine v_aload_n (i := 2) h 189 190 dL_minute_189 rfl rfl ld2 ?_
  refine v_iload (i := 5) h 190 192 dL_minute_190 rfl ld5 ?_
  refine v_iconst (v := nI 2) h 192 193 dL_minute_192 rfl (by decide) ?_
  refine v_iaddN h 193 194 dL_minute_193 rfl ?_
  refine v_ldQ h 194 195 t 2 dL_minute_194 rfl (by omega) (by omega) ?_
  simp (disch := omega) only [upd_ne, upd_self]
  rw [z2]
  refine v_iconst (v := 1) h 195 196 dL_minute_195 rfl (by decide) ?_
  refine v_icmp_ne h 196 199 244 dL_minute_196 rfl (by decide) (fun h196 => ?_) (fun h196 => absurd h196 (by decide))
  refine v_aload_n (i := 2) h 244 245 dL_minute_244 rfl rfl ld2 ?_
  refine v_iload (i := 5) h 245 247 dL_minute_245 rfl ld5 ?_
  refine v_iconst (v := nI 2) h 247 248 dL_minute_247 rfl (by decide) ?_
  refine v_iaddN h 248 249 dL_minute_248 rfl ?_
  refine v_ldQ h 249 250 t 2 dL_minute_249 rfl (by omega) (by omega) ?_
  simp (disch := omega) only [upd_ne, upd_self]
  rw [z2]
  refine v_iconst (v := 2) h 250 251 dL_minute_250 rfl (by decide) ?_
  refine v_icmp_ne h 251 254 461 dL_minute_251 rfl (by decide) (fun h251 => absurd (by decide) h251) (fun h251 => ?_)
  refine v_aload_n (i := 1) h 254 255 dL_minute_254 rfl rfl ld1 ?_
  refine v_iload (i := 6) h 255 257 dL_minute_255 rfl ld6 ?_
  refine v_iconst (v := nI 4) h 257 258 dL_minute_257 rfl (by decide) ?_
  refine v_iaddN h 258 259 dL_minute_258 rfl ?_
  refine v_iconst (v := 2) h 259 260 dL_minute_259 rfl (by decide) ?_
  refine v_stE h 260 261 c 4 dL_minute_260 rfl (by omega) (by omega) ?_
  refine v_aload_n (i := 1) h 261 262 dL_minute_261 rfl rfl ld1 ?_
  refine v_iload (i := 6) h 262 264 dL_minute_262 rfl ld6 ?_
  refine v_bipush (v := nI 6) h 264 266 dL_minute_264 rfl (by decide) ?_
  refine v_iaddN h 266 267 dL_minute_266 rfl ?_
  refine v_aload_n (i := 0) h 267 268 dL_minute_267 rfl rfl ld0 ?_
  refine v_bipush (v := nI 9) h 268 270 dL_minute_268 rfl (by decide) ?_
  refine v_ldG h 270 271 9 dL_minute_270 rfl (by omega) ?_
  simp (disch := omega) only [upd_ne, upd_self]
  refine v_stE h 271 272 c 6 dL_minute_271 rfl (by omega) (by omega) ?_
  rcases hJ c hc with e7 | ⟨y, hy, e7⟩
  · have F0 : fin0 Z c = Z := by unfold fin0; rw [if_pos e7]
    refine v_aload_n (i := 0) h 272 273 dL_minute_272 rfl rfl ld0 ?_
    refine v_bipush (v := nI 10) h 273 275 dL_minute_273 rfl (by decide) ?_
    refine v_dup2 h 275 276 dL_minute_275 rfl rfl rfl ?_
    refine v_ldG h 276 277 10 dL_minute_276 rfl (by omega) ?_
    simp (disch := omega) only [upd_ne, upd_self]
    refine v_aload_n (i := 1) h 277 278 dL_minute_277 rfl rfl ld1 ?_
    refine v_iload (i := 6) h 278 280 dL_minute_278 rfl ld6 ?_
    refine v_bipush (v := nI 7) h 280 282 dL_minute_280 rfl (by decide) ?_
    refine v_iaddN h 282 283 dL_minute_282 rfl ?_
    refine v_ldE h 283 284 c 7 dL_minute_283 rfl (by omega) (by omega) ?_
    simp (disch := omega) only [upd_ne, upd_self]
    rw [e7]
    refine v_aload_n (i := 0) h 284 285 dL_minute_284 rfl rfl ld0 ?_
    refine v_bipush (v := nI 9) h 285 287 dL_minute_285 rfl (by decide) ?_
    refine v_ldG h 287 288 9 dL_minute_287 rfl (by omega) ?_
    simp (disch := omega) only [upd_ne, upd_self]
    refine v_icmp_lt h 288 291 295 dL_minute_288 rfl (by decide) (fun h288 => ?_) (fun h288 => absurd (Int32.lt_of_lt_of_le (show (-1 : Int32) < 0 by decide) (nI_pos' (by omega))) h288)
    refine v_iconst (v := 0) h 295 296 dL_minute_295 rfl (by decide) ?_
    refine v_iadd h 296 297 dL_minute_296 rfl ?_
    refine v_stG h 297 298 10 dL_minute_297 rfl (by omega) ?_
    refine v_aload_n (i := 0) h 298 299 dL_minute_298 rfl rfl ld0 ?_
    refine v_bipush (v := nI 11) h 299 301 dL_minute_299 rfl (by decide) ?_
    refine v_dup2 h 301 302 dL_minute_301 rfl rfl rfl ?_
    refine v_ldG h 302 303 11 dL_minute_302 rfl (by omega) ?_
    simp (disch := omega) only [upd_ne, upd_self]
    refine v_aload_n (i := 1) h 303 304 dL_minute_303 rfl rfl ld1 ?_
    refine v_iload (i := 6) h 304 306 dL_minute_304 rfl ld6 ?_
    refine v_bipush (v := nI 7) h 306 308 dL_minute_306 rfl (by decide) ?_
    refine v_iaddN h 308 309 dL_minute_308 rfl ?_
    refine v_ldE h 309 310 c 7 dL_minute_309 rfl (by omega) (by omega) ?_
    simp (disch := omega) only [upd_ne, upd_self]
    rw [e7]
    refine v_if_lt h 310 313 331 dL_minute_310 rfl (by decide) (fun h310 => ?_) (fun h310 => absurd (by decide) h310)
    refine v_iconst (v := 0) h 331 332 dL_minute_331 rfl (by decide) ?_
    refine v_iadd h 332 333 dL_minute_332 rfl ?_
    refine v_stG h 333 334 11 dL_minute_333 rfl (by omega) ?_
    refine v_aload_n (i := 3) h 334 335 dL_minute_334 rfl rfl ld3 ?_
    refine v_aload_n (i := 0) h 335 336 dL_minute_335 rfl rfl ld0 ?_
    refine v_bipush (v := nI 12) h 336 338 dL_minute_336 rfl (by decide) ?_
    refine v_ldG h 338 339 12 dL_minute_338 rfl (by omega) ?_
    simp (disch := omega) only [upd_ne, upd_self]
    rw [IA.c12]
    refine v_aload_n (i := 2) h 339 340 dL_minute_339 rfl rfl ld2 ?_
    refine v_iload (i := 5) h 340 342 dL_minute_340 rfl ld5 ?_
    refine v_iconst (v := nI 4) h 342 343 dL_minute_342 rfl (by decide) ?_
    refine v_iaddN h 343 344 dL_minute_343 rfl ?_
    refine v_ldQ h 344 345 t 4 dL_minute_344 rfl (by omega) (by omega) ?_
    simp (disch := omega) only [upd_ne, upd_self]
    rw [e4]
    refine v_stJ h 345 346 ne dL_minute_345 rfl (by omega) ?_
    refine v_aload_n (i := 0) h 346 347 dL_minute_346 rfl rfl ld0 ?_
    refine v_bipush (v := nI 12) h 347 349 dL_minute_347 rfl (by decide) ?_
    refine v_dup2 h 349 350 dL_minute_349 rfl rfl rfl ?_
    refine v_ldG h 350 351 12 dL_minute_350 rfl (by omega) ?_
    simp (disch := omega) only [upd_ne, upd_self]
    rw [IA.c12]
    refine v_iconst (v := nI 1) h 351 352 dL_minute_351 rfl (by decide) ?_
    refine v_iaddN h 352 353 dL_minute_352 rfl ?_
    refine v_stG h 353 354 12 dL_minute_353 rfl (by omega) ?_
    refine v_aload_n (i := 2) h 354 355 dL_minute_354 rfl rfl ld2 ?_
    refine v_iload (i := 5) h 355 357 dL_minute_355 rfl ld5 ?_
    refine v_iconst (v := nI 1) h 357 358 dL_minute_357 rfl (by decide) ?_
    refine v_iaddN h 358 359 dL_minute_358 rfl ?_
    refine v_ldQ h 359 360 t 1 dL_minute_359 rfl (by omega) (by omega) ?_
    simp (disch := omega) only [upd_ne, upd_self]
    refine v_aload_n (i := 1) h 360 361 dL_minute_360 rfl rfl ld1 ?_
    refine v_iload (i := 6) h 361 363 dL_minute_361 rfl ld6 ?_
    refine v_iconst (v := nI 1) h 363 364 dL_minute_363 rfl (by decide) ?_
    refine v_iaddN h 364 365 dL_minute_364 rfl ?_
    refine v_ldE h 365 366 c 1 dL_minute_365 rfl (by omega) (by omega) ?_
    simp (disch := omega) only [upd_ne, upd_self]
    refine v_iadd h 366 367 dL_minute_366 rfl ?_
    refine v_istore (i := 7) h 367 369 dL_minute_367 rfl (by decide) (so7 rfl) ?_
    refine v_aload_n (i := 2) h 369 370 dL_minute_369 rfl rfl ld2 ?_
    refine v_iload (i := 5) h 370 372 dL_minute_370 rfl ld5 ?_
    refine v_iconst (v := nI 1) h 372 373 dL_minute_372 rfl (by decide) ?_
    refine v_iaddN h 373 374 dL_minute_373 rfl ?_
    refine v_iload (i := 7) h 374 376 dL_minute_374 rfl ld7 ?_
    refine v_bipush (v := 30) h 376 378 dL_minute_376 rfl (by decide) ?_
    refine v_tern 388 386 381 (fun a b => v_icmp_le h 378 381 386 dL_minute_378 rfl (by decide) a b) (fun kk => v_iload (i := 7) h 386 388 dL_minute_386 rfl ld7 kk) (fun kk => v_bipush (v := 30) h 381 383 dL_minute_381 rfl (by decide) (v_goto h 383 388 dL_minute_383 (by decide) kk)) ?_
    refine v_stQ h 388 389 t 1 dL_minute_388 rfl (by omega) (by omega) ?_
    refine v_aload_n (i := 2) h 389 390 dL_minute_389 rfl rfl ld2 ?_
    refine v_iload (i := 5) h 390 392 dL_minute_390 rfl ld5 ?_
    refine v_iconst (v := nI 2) h 392 393 dL_minute_392 rfl (by decide) ?_
    refine v_iaddN h 393 394 dL_minute_393 rfl ?_
    refine v_iload (i := 7) h 394 396 dL_minute_394 rfl ld7 ?_
    refine v_bipush (v := 9) h 396 398 dL_minute_396 rfl (by decide) ?_
    refine v_tern 406 405 401 (fun a b => v_icmp_le h 398 401 405 dL_minute_398 rfl (by decide) a b) (fun kk => v_iconst (v := 0) h 405 406 dL_minute_405 rfl (by decide) kk) (fun kk => v_iconst (v := 3) h 401 402 dL_minute_401 rfl (by decide) (v_goto h 402 406 dL_minute_402 (by decide) kk)) ?_
    refine v_stQ h 406 407 t 2 dL_minute_406 rfl (by omega) (by omega) ?_
    refine v_aload_n (i := 2) h 407 408 dL_minute_407 rfl rfl ld2 ?_
    refine v_iload (i := 5) h 408 410 dL_minute_408 rfl ld5 ?_
    refine v_iconst (v := nI 3) h 410 411 dL_minute_410 rfl (by decide) ?_
    refine v_iaddN h 411 412 dL_minute_411 rfl ?_
    refine v_iload (i := 7) h 412 414 dL_minute_412 rfl ld7 ?_
    refine v_bipush (v := 9) h 414 416 dL_minute_414 rfl (by decide) ?_
    refine v_tern 424 423 419 (fun a b => v_icmp_le h 416 419 423 dL_minute_416 rfl (by decide) a b) (fun kk => v_iconst (v := 0) h 423 424 dL_minute_423 rfl (by decide) kk) (fun kk => v_iconst (v := 5) h 419 420 dL_minute_419 rfl (by decide) (v_goto h 420 424 dL_minute_420 (by decide) kk)) ?_
    refine v_stQ h 424 425 t 3 dL_minute_424 rfl (by omega) (by omega) ?_
    refine v_aload_n (i := 2) h 425 426 dL_minute_425 rfl rfl ld2 ?_
    refine v_iload (i := 5) h 426 428 dL_minute_426 rfl ld5 ?_
    refine v_iconst (v := nI 4) h 428 429 dL_minute_428 rfl (by decide) ?_
    refine v_iaddN h 429 430 dL_minute_429 rfl ?_
    refine v_iconst (v := (-1)) h 430 431 dL_minute_430 rfl (by decide) ?_
    refine v_stQ h 431 432 t 4 dL_minute_431 rfl (by omega) (by omega) ?_
    refine v_aload_n (i := 2) h 432 433 dL_minute_432 rfl rfl ld2 ?_
    refine v_iload (i := 5) h 433 435 dL_minute_433 rfl ld5 ?_
    refine v_iconst (v := nI 5) h 435 436 dL_minute_435 rfl (by decide) ?_
    refine v_iaddN h 436 437 dL_minute_436 rfl ?_
    refine v_dup2 h 437 438 dL_minute_437 rfl rfl rfl ?_
    refine v_ldQ h 438 439 t 5 dL_minute_438 rfl (by omega) (by omega) ?_
    simp (disch := omega) only [upd_ne, upd_self]
    refine v_iconst (v := 1) h 439 440 dL_minute_439 rfl (by decide) ?_
    refine v_iadd h 440 441 dL_minute_440 rfl ?_
    refine v_stQ h 441 442 t 5 dL_minute_441 rfl (by omega) (by omega) ?_
    refine v_aload_n (i := 2) h 442 443 dL_minute_442 rfl rfl ld2 ?_
    refine v_iload (i := 5) h 443 445 dL_minute_443 rfl ld5 ?_
    refine v_bipush (v := nI 6) h 445 447 dL_minute_445 rfl (by decide) ?_
    refine v_iaddN h 447 448 dL_minute_447 rfl ?_
    refine v_dup2 h 448 449 dL_minute_448 rfl rfl rfl ?_
    refine v_ldQ h 449 450 t 6 dL_minute_449 rfl (by omega) (by omega) ?_
    simp (disch := omega) only [upd_ne, upd_self]
    refine v_aload_n (i := 1) h 450 451 dL_minute_450 rfl rfl ld1 ?_
    refine v_iload (i := 6) h 451 453 dL_minute_451 rfl ld6 ?_
    refine v_iconst (v := nI 1) h 453 454 dL_minute_453 rfl (by decide) ?_
    refine v_iaddN h 454 455 dL_minute_454 rfl ?_
    refine v_ldE h 455 456 c 1 dL_minute_455 rfl (by omega) (by omega) ?_
    simp (disch := omega) only [upd_ne, upd_self]
    refine v_iadd h 456 457 dL_minute_456 rfl ?_
    refine v_stQ h 457 458 t 6 dL_minute_457 rfl (by omega) (by omega) ?_
    refine v_goto h 458 499 dL_minute_458 (by decide) ?_
    refine V.world (congrArg (fun z => lw E B z w) ?_) (V.weakT kk (And.intro rfl (And.intro rfl (And.intro rfl (And.intro rfl (And.intro rfl trivial))))))
    rw [fin_fK (by omega) (by omega) (by omega) IA.c12 e4]
    funext i
    by_cases q9 : i = 9
    · subst q9
      simp (disch := omega) only [upd_self, upd_ne]
    rw [upd_ne (fK Z t c ne) _ q9]
    unfold fK
    rw [F0, IA.c9, nI_1, IA.c12, nI_1]
    by_cases p0 : i = 12
    · rw [if_pos p0]
      subst p0
      simp (disch := omega) only [upd_self, upd_ne, if9, e4, mn30]
    rw [if_neg p0]
    by_cases p1 : i = 157 + ne
    · rw [if_pos p1]
      subst p1
      simp (disch := omega) only [upd_self, upd_ne, if9, e4, mn30]
    rw [if_neg p1]
    by_cases p2 : i = 13 + 8 * c + 4
    · rw [if_pos p2]
      subst p2
      simp (disch := omega) only [upd_self, upd_ne, if9, e4, mn30]
    rw [if_neg p2]
    by_cases p3 : i = 13 + 8 * c + 6
    · rw [if_pos p3]
      subst p3
      simp (disch := omega) only [upd_self, upd_ne, if9, e4, mn30]
    rw [if_neg p3]
    by_cases p4 : i = 125 + 8 * t + 5
    · rw [if_pos p4]
      subst p4
      simp (disch := omega) only [upd_self, upd_ne, if9, e4, mn30]
    rw [if_neg p4]
    by_cases p5 : i = 125 + 8 * t + 6
    · rw [if_pos p5]
      subst p5
      simp (disch := omega) only [upd_self, upd_ne, if9, e4, mn30]
    rw [if_neg p5]
    by_cases p6 : i = 125 + 8 * t + 1
    · rw [if_pos p6]
      subst p6
      simp (disch := omega) only [upd_self, upd_ne, if9, e4, mn30]
    rw [if_neg p6]
    by_cases p7 : i = 125 + 8 * t + 2
    · rw [if_pos p7]
      subst p7
      simp (disch := omega) only [upd_self, upd_ne, if9, e4, mn30]
    rw [if_neg p7]
    by_cases p8 : i = 125 + 8 * t + 3
    · rw [if_pos p8]
      subst p8
      simp (disch := omega) only [upd_self, upd_ne, if9, e4, mn30]
    rw [if_neg p8]
    by_cases p9 : i = 125 + 8 * t + 4
    · rw [if_pos p9]
      subst p9
      simp (disch := omega) only [upd_self, upd_ne, if9, e4, mn30]
    rw [if_neg p9]
    by_cases r0 : i = 10
    · subst r0
      simp (disch := omega) only [upd_self, upd_ne, Int32.add_zero]
    by_cases r1 : i = 11
    · subst r1
      simp (disch := omega) only [upd_self, upd_ne, Int32.add_zero]
    simp (disch := omega) only [upd_ne]
  · by_cases hyn : y < m + 1
    · have F0 : fin0 Z c = upd Z 11 (Z 11 + 1) := by unfold fin0; rw [if_neg (by rw [e7]; exact nI_ne_m1 (by omega)), IA.c9, e7, nI_1, if_pos (nI_lt hyn (by omega))]
      refine v_aload_n (i := 0) h 272 273 dL_minute_272 rfl rfl ld0 ?_
      refine v_bipush (v := nI 10) h 273 275 dL_minute_273 rfl (by decide) ?_
      refine v_dup2 h 275 276 dL_minute_275 rfl rfl rfl ?_
      refine v_ldG h 276 277 10 dL_minute_276 rfl (by omega) ?_
      simp (disch := omega) only [upd_ne, upd_self]
      refine v_aload_n (i := 1) h 277 278 dL_minute_277 rfl rfl ld1 ?_
      refine v_iload (i := 6) h 278 280 dL_minute_278 rfl ld6 ?_
      refine v_bipush (v := nI 7) h 280 282 dL_minute_280 rfl (by decide) ?_
      refine v_iaddN h 282 283 dL_minute_282 rfl ?_
      refine v_ldE h 283 284 c 7 dL_minute_283 rfl (by omega) (by omega) ?_
      simp (disch := omega) only [upd_ne, upd_self]
      rw [e7]
      refine v_aload_n (i := 0) h 284 285 dL_minute_284 rfl rfl ld0 ?_
      refine v_bipush (v := nI 9) h 285 287 dL_minute_285 rfl (by decide) ?_
      refine v_ldG h 287 288 9 dL_minute_287 rfl (by omega) ?_
      simp (disch := omega) only [upd_ne, upd_self]
      refine v_icmp_lt h 288 291 295 dL_minute_288 rfl (by decide) (fun h288 => ?_) (fun h288 => absurd (nI_lt (a := y) (b := m + 1) (by omega) (by omega)) h288)
      refine v_iconst (v := 0) h 295 296 dL_minute_295 rfl (by decide) ?_
      refine v_iadd h 296 297 dL_minute_296 rfl ?_
      refine v_stG h 297 298 10 dL_minute_297 rfl (by omega) ?_
      refine v_aload_n (i := 0) h 298 299 dL_minute_298 rfl rfl ld0 ?_
      refine v_bipush (v := nI 11) h 299 301 dL_minute_299 rfl (by decide) ?_
      refine v_dup2 h 301 302 dL_minute_301 rfl rfl rfl ?_
      refine v_ldG h 302 303 11 dL_minute_302 rfl (by omega) ?_
      simp (disch := omega) only [upd_ne, upd_self]
      refine v_aload_n (i := 1) h 303 304 dL_minute_303 rfl rfl ld1 ?_
      refine v_iload (i := 6) h 304 306 dL_minute_304 rfl ld6 ?_
      refine v_bipush (v := nI 7) h 306 308 dL_minute_306 rfl (by decide) ?_
      refine v_iaddN h 308 309 dL_minute_308 rfl ?_
      refine v_ldE h 309 310 c 7 dL_minute_309 rfl (by omega) (by omega) ?_
      simp (disch := omega) only [upd_ne, upd_self]
      rw [e7]
      refine v_if_lt h 310 313 331 dL_minute_310 rfl (by decide) (fun h310 => absurd h310 (nI_nlt (a := y) (b := 0) (by omega) (by omega))) (fun h310 => ?_)
      refine v_aload_n (i := 1) h 313 314 dL_minute_313 rfl rfl ld1 ?_
      refine v_iload (i := 6) h 314 316 dL_minute_314 rfl ld6 ?_
      refine v_bipush (v := nI 7) h 316 318 dL_minute_316 rfl (by decide) ?_
      refine v_iaddN h 318 319 dL_minute_318 rfl ?_
      refine v_ldE h 319 320 c 7 dL_minute_319 rfl (by omega) (by omega) ?_
      simp (disch := omega) only [upd_ne, upd_self]
      rw [e7]
      refine v_aload_n (i := 0) h 320 321 dL_minute_320 rfl rfl ld0 ?_
      refine v_bipush (v := nI 9) h 321 323 dL_minute_321 rfl (by decide) ?_
      refine v_ldG h 323 324 9 dL_minute_323 rfl (by omega) ?_
      simp (disch := omega) only [upd_ne, upd_self]
      refine v_icmp_ge h 324 327 331 dL_minute_324 rfl (by decide) (fun h324 => absurd h324 (nI_ge (a := y) (b := m + 1) (by omega) (by omega))) (fun h324 => ?_)
      refine v_iconst (v := 1) h 327 328 dL_minute_327 rfl (by decide) ?_
      refine v_goto h 328 332 dL_minute_328 (by decide) ?_
      refine v_iadd h 332 333 dL_minute_332 rfl ?_
      refine v_stG h 333 334 11 dL_minute_333 rfl (by omega) ?_
      refine v_aload_n (i := 3) h 334 335 dL_minute_334 rfl rfl ld3 ?_
      refine v_aload_n (i := 0) h 335 336 dL_minute_335 rfl rfl ld0 ?_
      refine v_bipush (v := nI 12) h 336 338 dL_minute_336 rfl (by decide) ?_
      refine v_ldG h 338 339 12 dL_minute_338 rfl (by omega) ?_
      simp (disch := omega) only [upd_ne, upd_self]
      rw [IA.c12]
      refine v_aload_n (i := 2) h 339 340 dL_minute_339 rfl rfl ld2 ?_
      refine v_iload (i := 5) h 340 342 dL_minute_340 rfl ld5 ?_
      refine v_iconst (v := nI 4) h 342 343 dL_minute_342 rfl (by decide) ?_
      refine v_iaddN h 343 344 dL_minute_343 rfl ?_
      refine v_ldQ h 344 345 t 4 dL_minute_344 rfl (by omega) (by omega) ?_
      simp (disch := omega) only [upd_ne, upd_self]
      rw [e4]
      refine v_stJ h 345 346 ne dL_minute_345 rfl (by omega) ?_
      refine v_aload_n (i := 0) h 346 347 dL_minute_346 rfl rfl ld0 ?_
      refine v_bipush (v := nI 12) h 347 349 dL_minute_347 rfl (by decide) ?_
      refine v_dup2 h 349 350 dL_minute_349 rfl rfl rfl ?_
      refine v_ldG h 350 351 12 dL_minute_350 rfl (by omega) ?_
      simp (disch := omega) only [upd_ne, upd_self]
      rw [IA.c12]
      refine v_iconst (v := nI 1) h 351 352 dL_minute_351 rfl (by decide) ?_
      refine v_iaddN h 352 353 dL_minute_352 rfl ?_
      refine v_stG h 353 354 12 dL_minute_353 rfl (by omega) ?_
      refine v_aload_n (i := 2) h 354 355 dL_minute_354 rfl rfl ld2 ?_
      refine v_iload (i := 5) h 355 357 dL_minute_355 rfl ld5 ?_
      refine v_iconst (v := nI 1) h 357 358 dL_minute_357 rfl (by decide) ?_
      refine v_iaddN h 358 359 dL_minute_358 rfl ?_
      refine v_ldQ h 359 360 t 1 dL_minute_359 rfl (by omega) (by omega) ?_
      simp (disch := omega) only [upd_ne, upd_self]
      refine v_aload_n (i := 1) h 360 361 dL_minute_360 rfl rfl ld1 ?_
      refine v_iload (i := 6) h 361 363 dL_minute_361 rfl ld6 ?_
      refine v_iconst (v := nI 1) h 363 364 dL_minute_363 rfl (by decide) ?_
      refine v_iaddN h 364 365 dL_minute_364 rfl ?_
      refine v_ldE h 365 366 c 1 dL_minute_365 rfl (by omega) (by omega) ?_
      simp (disch := omega) only [upd_ne, upd_self]
      refine v_iadd h 366 367 dL_minute_366 rfl ?_
      refine v_istore (i := 7) h 367 369 dL_minute_367 rfl (by decide) (so7 rfl) ?_
      refine v_aload_n (i := 2) h 369 370 dL_minute_369 rfl rfl ld2 ?_
      refine v_iload (i := 5) h 370 372 dL_minute_370 rfl ld5 ?_
      refine v_iconst (v := nI 1) h 372 373 dL_minute_372 rfl (by decide) ?_
      refine v_iaddN h 373 374 dL_minute_373 rfl ?_
      refine v_iload (i := 7) h 374 376 dL_minute_374 rfl ld7 ?_
      refine v_bipush (v := 30) h 376 378 dL_minute_376 rfl (by decide) ?_
      refine v_tern 388 386 381 (fun a b => v_icmp_le h 378 381 386 dL_minute_378 rfl (by decide) a b) (fun kk => v_iload (i := 7) h 386 388 dL_minute_386 rfl ld7 kk) (fun kk => v_bipush (v := 30) h 381 383 dL_minute_381 rfl (by decide) (v_goto h 383 388 dL_minute_383 (by decide) kk)) ?_
      refine v_stQ h 388 389 t 1 dL_minute_388 rfl (by omega) (by omega) ?_
      refine v_aload_n (i := 2) h 389 390 dL_minute_389 rfl rfl ld2 ?_
      refine v_iload (i := 5) h 390 392 dL_minute_390 rfl ld5 ?_
      refine v_iconst (v := nI 2) h 392 393 dL_minute_392 rfl (by decide) ?_
      refine v_iaddN h 393 394 dL_minute_393 rfl ?_
      refine v_iload (i := 7) h 394 396 dL_minute_394 rfl ld7 ?_
      refine v_bipush (v := 9) h 396 398 dL_minute_396 rfl (by decide) ?_
      refine v_tern 406 405 401 (fun a b => v_icmp_le h 398 401 405 dL_minute_398 rfl (by decide) a b) (fun kk => v_iconst (v := 0) h 405 406 dL_minute_405 rfl (by decide) kk) (fun kk => v_iconst (v := 3) h 401 402 dL_minute_401 rfl (by decide) (v_goto h 402 406 dL_minute_402 (by decide) kk)) ?_
      refine v_stQ h 406 407 t 2 dL_minute_406 rfl (by omega) (by omega) ?_
      refine v_aload_n (i := 2) h 407 408 dL_minute_407 rfl rfl ld2 ?_
      refine v_iload (i := 5) h 408 410 dL_minute_408 rfl ld5 ?_
      refine v_iconst (v := nI 3) h 410 411 dL_minute_410 rfl (by decide) ?_
      refine v_iaddN h 411 412 dL_minute_411 rfl ?_
      refine v_iload (i := 7) h 412 414 dL_minute_412 rfl ld7 ?_
      refine v_bipush (v := 9) h 414 416 dL_minute_414 rfl (by decide) ?_
      refine v_tern 424 423 419 (fun a b => v_icmp_le h 416 419 423 dL_minute_416 rfl (by decide) a b) (fun kk => v_iconst (v := 0) h 423 424 dL_minute_423 rfl (by decide) kk) (fun kk => v_iconst (v := 5) h 419 420 dL_minute_419 rfl (by decide) (v_goto h 420 424 dL_minute_420 (by decide) kk)) ?_
      refine v_stQ h 424 425 t 3 dL_minute_424 rfl (by omega) (by omega) ?_
      refine v_aload_n (i := 2) h 425 426 dL_minute_425 rfl rfl ld2 ?_
      refine v_iload (i := 5) h 426 428 dL_minute_426 rfl ld5 ?_
      refine v_iconst (v := nI 4) h 428 429 dL_minute_428 rfl (by decide) ?_
      refine v_iaddN h 429 430 dL_minute_429 rfl ?_
      refine v_iconst (v := (-1)) h 430 431 dL_minute_430 rfl (by decide) ?_
      refine v_stQ h 431 432 t 4 dL_minute_431 rfl (by omega) (by omega) ?_
      refine v_aload_n (i := 2) h 432 433 dL_minute_432 rfl rfl ld2 ?_
      refine v_iload (i := 5) h 433 435 dL_minute_433 rfl ld5 ?_
      refine v_iconst (v := nI 5) h 435 436 dL_minute_435 rfl (by decide) ?_
      refine v_iaddN h 436 437 dL_minute_436 rfl ?_
      refine v_dup2 h 437 438 dL_minute_437 rfl rfl rfl ?_
      refine v_ldQ h 438 439 t 5 dL_minute_438 rfl (by omega) (by omega) ?_
      simp (disch := omega) only [upd_ne, upd_self]
      refine v_iconst (v := 1) h 439 440 dL_minute_439 rfl (by decide) ?_
      refine v_iadd h 440 441 dL_minute_440 rfl ?_
      refine v_stQ h 441 442 t 5 dL_minute_441 rfl (by omega) (by omega) ?_
      refine v_aload_n (i := 2) h 442 443 dL_minute_442 rfl rfl ld2 ?_
      refine v_iload (i := 5) h 443 445 dL_minute_443 rfl ld5 ?_
      refine v_bipush (v := nI 6) h 445 447 dL_minute_445 rfl (by decide) ?_
      refine v_iaddN h 447 448 dL_minute_447 rfl ?_
      refine v_dup2 h 448 449 dL_minute_448 rfl rfl rfl ?_
      refine v_ldQ h 449 450 t 6 dL_minute_449 rfl (by omega) (by omega) ?_
      simp (disch := omega) only [upd_ne, upd_self]
      refine v_aload_n (i := 1) h 450 451 dL_minute_450 rfl rfl ld1 ?_
      refine v_iload (i := 6) h 451 453 dL_minute_451 rfl ld6 ?_
      refine v_iconst (v := nI 1) h 453 454 dL_minute_453 rfl (by decide) ?_
      refine v_iaddN h 454 455 dL_minute_454 rfl ?_
      refine v_ldE h 455 456 c 1 dL_minute_455 rfl (by omega) (by omega) ?_
      simp (disch := omega) only [upd_ne, upd_self]
      refine v_iadd h 456 457 dL_minute_456 rfl ?_
      refine v_stQ h 457 458 t 6 dL_minute_457 rfl (by omega) (by omega) ?_
      refine v_goto h 458 499 dL_minute_458 (by decide) ?_
      refine V.world (congrArg (fun z => lw E B z w) ?_) (V.weakT kk (And.intro rfl (And.intro rfl (And.intro rfl (And.intro rfl (And.intro rfl trivial))))))
      rw [fin_fK (by omega) (by omega) (by omega) IA.c12 e4]
      funext i
      by_cases q9 : i = 9
      · subst q9
        simp (disch := omega) only [upd_self, upd_ne]
      rw [upd_ne (fK Z t c ne) _ q9]
      unfold fK
      rw [F0, IA.c9, nI_1, IA.c12, nI_1]
      by_cases p0 : i = 12
      · rw [if_pos p0]
        subst p0
        simp (disch := omega) only [upd_self, upd_ne, if9, e4, mn30]
      rw [if_neg p0]
      by_cases p1 : i = 157 + ne
      · rw [if_pos p1]
        subst p1
        simp (disch := omega) only [upd_self, upd_ne, if9, e4, mn30]
      rw [if_neg p1]
      by_cases p2 : i = 13 + 8 * c + 4
      · rw [if_pos p2]
        subst p2
        simp (disch := omega) only [upd_self, upd_ne, if9, e4, mn30]
      rw [if_neg p2]
      by_cases p3 : i = 13 + 8 * c + 6
      · rw [if_pos p3]
        subst p3
        simp (disch := omega) only [upd_self, upd_ne, if9, e4, mn30]
      rw [if_neg p3]
      by_cases p4 : i = 125 + 8 * t + 5
      · rw [if_pos p4]
        subst p4
        simp (disch := omega) only [upd_self, upd_ne, if9, e4, mn30]
      rw [if_neg p4]
      by_cases p5 : i = 125 + 8 * t + 6
      · rw [if_pos p5]
        subst p5
        simp (disch := omega) only [upd_self, upd_ne, if9, e4, mn30]
      rw [if_neg p5]
      by_cases p6 : i = 125 + 8 * t + 1
      · rw [if_pos p6]
        subst p6
        simp (disch := omega) only [upd_self, upd_ne, if9, e4, mn30]
      rw [if_neg p6]
      by_cases p7 : i = 125 + 8 * t + 2
      · rw [if_pos p7]
        subst p7
        simp (disch := omega) only [upd_self, upd_ne, if9, e4, mn30]
      rw [if_neg p7]
      by_cases p8 : i = 125 + 8 * t + 3
      · rw [if_pos p8]
        subst p8
        simp (disch := omega) only [upd_self, upd_ne, if9, e4, mn30]
      rw [if_neg p8]
      by_cases p9 : i = 125 + 8 * t + 4
      · rw [if_pos p9]
        subst p9
        simp (disch := omega) only [upd_self, upd_ne, if9, e4, mn30]
      rw [if_neg p9]
      by_cases r0 : i = 10
      · subst r0
        simp (disch := omega) only [upd_self, upd_ne, Int32.add_zero]
      by_cases r1 : i = 11
      · subst r1
        simp (disch := omega) only [upd_self, upd_ne, Int32.add_zero]
      simp (disch := omega) only [upd_ne]
    · have F0 : fin0 Z c = upd Z 10 (Z 10 + 1) := by unfold fin0; rw [if_neg (by rw [e7]; exact nI_ne_m1 (by omega)), IA.c9, e7, nI_1, if_neg (nI_nlt (by omega) (by omega))]
      refine v_aload_n (i := 0) h 272 273 dL_minute_272 rfl rfl ld0 ?_
      refine v_bipush (v := nI 10) h 273 275 dL_minute_273 rfl (by decide) ?_
      refine v_dup2 h 275 276 dL_minute_275 rfl rfl rfl ?_
      refine v_ldG h 276 277 10 dL_minute_276 rfl (by omega) ?_
      simp (disch := omega) only [upd_ne, upd_self]
      refine v_aload_n (i := 1) h 277 278 dL_minute_277 rfl rfl ld1 ?_
      refine v_iload (i := 6) h 278 280 dL_minute_278 rfl ld6 ?_
      refine v_bipush (v := nI 7) h 280 282 dL_minute_280 rfl (by decide) ?_
      refine v_iaddN h 282 283 dL_minute_282 rfl ?_
      refine v_ldE h 283 284 c 7 dL_minute_283 rfl (by omega) (by omega) ?_
      simp (disch := omega) only [upd_ne, upd_self]
      rw [e7]
      refine v_aload_n (i := 0) h 284 285 dL_minute_284 rfl rfl ld0 ?_
      refine v_bipush (v := nI 9) h 285 287 dL_minute_285 rfl (by decide) ?_
      refine v_ldG h 287 288 9 dL_minute_287 rfl (by omega) ?_
      simp (disch := omega) only [upd_ne, upd_self]
      refine v_icmp_lt h 288 291 295 dL_minute_288 rfl (by decide) (fun h288 => absurd h288 (nI_nlt (a := y) (b := m + 1) (by omega) (by omega))) (fun h288 => ?_)
      refine v_iconst (v := 1) h 291 292 dL_minute_291 rfl (by decide) ?_
      refine v_goto h 292 296 dL_minute_292 (by decide) ?_
      refine v_iadd h 296 297 dL_minute_296 rfl ?_
      refine v_stG h 297 298 10 dL_minute_297 rfl (by omega) ?_
      refine v_aload_n (i := 0) h 298 299 dL_minute_298 rfl rfl ld0 ?_
      refine v_bipush (v := nI 11) h 299 301 dL_minute_299 rfl (by decide) ?_
      refine v_dup2 h 301 302 dL_minute_301 rfl rfl rfl ?_
      refine v_ldG h 302 303 11 dL_minute_302 rfl (by omega) ?_
      simp (disch := omega) only [upd_ne, upd_self]
      refine v_aload_n (i := 1) h 303 304 dL_minute_303 rfl rfl ld1 ?_
      refine v_iload (i := 6) h 304 306 dL_minute_304 rfl ld6 ?_
      refine v_bipush (v := nI 7) h 306 308 dL_minute_306 rfl (by decide) ?_
      refine v_iaddN h 308 309 dL_minute_308 rfl ?_
      refine v_ldE h 309 310 c 7 dL_minute_309 rfl (by omega) (by omega) ?_
      simp (disch := omega) only [upd_ne, upd_self]
      rw [e7]
      refine v_if_lt h 310 313 331 dL_minute_310 rfl (by decide) (fun h310 => absurd h310 (nI_nlt (a := y) (b := 0) (by omega) (by omega))) (fun h310 => ?_)
      refine v_aload_n (i := 1) h 313 314 dL_minute_313 rfl rfl ld1 ?_
      refine v_iload (i := 6) h 314 316 dL_minute_314 rfl ld6 ?_
      refine v_bipush (v := nI 7) h 316 318 dL_minute_316 rfl (by decide) ?_
      refine v_iaddN h 318 319 dL_minute_318 rfl ?_
      refine v_ldE h 319 320 c 7 dL_minute_319 rfl (by omega) (by omega) ?_
      simp (disch := omega) only [upd_ne, upd_self]
      rw [e7]
      refine v_aload_n (i := 0) h 320 321 dL_minute_320 rfl rfl ld0 ?_
      refine v_bipush (v := nI 9) h 321 323 dL_minute_321 rfl (by decide) ?_
      refine v_ldG h 323 324 9 dL_minute_323 rfl (by omega) ?_
      simp (disch := omega) only [upd_ne, upd_self]
      refine v_icmp_ge h 324 327 331 dL_minute_324 rfl (by decide) (fun h324 => ?_) (fun h324 => absurd (nI_le (a := m + 1) (b := y) (by omega) (by omega)) h324)
      refine v_iconst (v := 0) h 331 332 dL_minute_331 rfl (by decide) ?_
      refine v_iadd h 332 333 dL_minute_332 rfl ?_
      refine v_stG h 333 334 11 dL_minute_333 rfl (by omega) ?_
      refine v_aload_n (i := 3) h 334 335 dL_minute_334 rfl rfl ld3 ?_
      refine v_aload_n (i := 0) h 335 336 dL_minute_335 rfl rfl ld0 ?_
      refine v_bipush (v := nI 12) h 336 338 dL_minute_336 rfl (by decide) ?_
      refine v_ldG h 338 339 12 dL_minute_338 rfl (by omega) ?_
      simp (disch := omega) only [upd_ne, upd_self]
      rw [IA.c12]
      refine v_aload_n (i := 2) h 339 340 dL_minute_339 rfl rfl ld2 ?_
      refine v_iload (i := 5) h 340 342 dL_minute_340 rfl ld5 ?_
      refine v_iconst (v := nI 4) h 342 343 dL_minute_342 rfl (by decide) ?_
      refine v_iaddN h 343 344 dL_minute_343 rfl ?_
      refine v_ldQ h 344 345 t 4 dL_minute_344 rfl (by omega) (by omega) ?_
      simp (disch := omega) only [upd_ne, upd_self]
      rw [e4]
      refine v_stJ h 345 346 ne dL_minute_345 rfl (by omega) ?_
      refine v_aload_n (i := 0) h 346 347 dL_minute_346 rfl rfl ld0 ?_
      refine v_bipush (v := nI 12) h 347 349 dL_minute_347 rfl (by decide) ?_
      refine v_dup2 h 349 350 dL_minute_349 rfl rfl rfl ?_
      refine v_ldG h 350 351 12 dL_minute_350 rfl (by omega) ?_
      simp (disch := omega) only [upd_ne, upd_self]
      rw [IA.c12]
      refine v_iconst (v := nI 1) h 351 352 dL_minute_351 rfl (by decide) ?_
      refine v_iaddN h 352 353 dL_minute_352 rfl ?_
      refine v_stG h 353 354 12 dL_minute_353 rfl (by omega) ?_
      refine v_aload_n (i := 2) h 354 355 dL_minute_354 rfl rfl ld2 ?_
      refine v_iload (i := 5) h 355 357 dL_minute_355 rfl ld5 ?_
      refine v_iconst (v := nI 1) h 357 358 dL_minute_357 rfl (by decide) ?_
      refine v_iaddN h 358 359 dL_minute_358 rfl ?_
      refine v_ldQ h 359 360 t 1 dL_minute_359 rfl (by omega) (by omega) ?_
      simp (disch := omega) only [upd_ne, upd_self]
      refine v_aload_n (i := 1) h 360 361 dL_minute_360 rfl rfl ld1 ?_
      refine v_iload (i := 6) h 361 363 dL_minute_361 rfl ld6 ?_
      refine v_iconst (v := nI 1) h 363 364 dL_minute_363 rfl (by decide) ?_
      refine v_iaddN h 364 365 dL_minute_364 rfl ?_
      refine v_ldE h 365 366 c 1 dL_minute_365 rfl (by omega) (by omega) ?_
      simp (disch := omega) only [upd_ne, upd_self]
      refine v_iadd h 366 367 dL_minute_366 rfl ?_
      refine v_istore (i := 7) h 367 369 dL_minute_367 rfl (by decide) (so7 rfl) ?_
      refine v_aload_n (i := 2) h 369 370 dL_minute_369 rfl rfl ld2 ?_
      refine v_iload (i := 5) h 370 372 dL_minute_370 rfl ld5 ?_
      refine v_iconst (v := nI 1) h 372 373 dL_minute_372 rfl (by decide) ?_
      refine v_iaddN h 373 374 dL_minute_373 rfl ?_
      refine v_iload (i := 7) h 374 376 dL_minute_374 rfl ld7 ?_
      refine v_bipush (v := 30) h 376 378 dL_minute_376 rfl (by decide) ?_
      refine v_tern 388 386 381 (fun a b => v_icmp_le h 378 381 386 dL_minute_378 rfl (by decide) a b) (fun kk => v_iload (i := 7) h 386 388 dL_minute_386 rfl ld7 kk) (fun kk => v_bipush (v := 30) h 381 383 dL_minute_381 rfl (by decide) (v_goto h 383 388 dL_minute_383 (by decide) kk)) ?_
      refine v_stQ h 388 389 t 1 dL_minute_388 rfl (by omega) (by omega) ?_
      refine v_aload_n (i := 2) h 389 390 dL_minute_389 rfl rfl ld2 ?_
      refine v_iload (i := 5) h 390 392 dL_minute_390 rfl ld5 ?_
      refine v_iconst (v := nI 2) h 392 393 dL_minute_392 rfl (by decide) ?_
      refine v_iaddN h 393 394 dL_minute_393 rfl ?_
      refine v_iload (i := 7) h 394 396 dL_minute_394 rfl ld7 ?_
      refine v_bipush (v := 9) h 396 398 dL_minute_396 rfl (by decide) ?_
      refine v_tern 406 405 401 (fun a b => v_icmp_le h 398 401 405 dL_minute_398 rfl (by decide) a b) (fun kk => v_iconst (v := 0) h 405 406 dL_minute_405 rfl (by decide) kk) (fun kk => v_iconst (v := 3) h 401 402 dL_minute_401 rfl (by decide) (v_goto h 402 406 dL_minute_402 (by decide) kk)) ?_
      refine v_stQ h 406 407 t 2 dL_minute_406 rfl (by omega) (by omega) ?_
      refine v_aload_n (i := 2) h 407 408 dL_minute_407 rfl rfl ld2 ?_
      refine v_iload (i := 5) h 408 410 dL_minute_408 rfl ld5 ?_
      refine v_iconst (v := nI 3) h 410 411 dL_minute_410 rfl (by decide) ?_
      refine v_iaddN h 411 412 dL_minute_411 rfl ?_
      refine v_iload (i := 7) h 412 414 dL_minute_412 rfl ld7 ?_
      refine v_bipush (v := 9) h 414 416 dL_minute_414 rfl (by decide) ?_
      refine v_tern 424 423 419 (fun a b => v_icmp_le h 416 419 423 dL_minute_416 rfl (by decide) a b) (fun kk => v_iconst (v := 0) h 423 424 dL_minute_423 rfl (by decide) kk) (fun kk => v_iconst (v := 5) h 419 420 dL_minute_419 rfl (by decide) (v_goto h 420 424 dL_minute_420 (by decide) kk)) ?_
      refine v_stQ h 424 425 t 3 dL_minute_424 rfl (by omega) (by omega) ?_
      refine v_aload_n (i := 2) h 425 426 dL_minute_425 rfl rfl ld2 ?_
      refine v_iload (i := 5) h 426 428 dL_minute_426 rfl ld5 ?_
      refine v_iconst (v := nI 4) h 428 429 dL_minute_428 rfl (by decide) ?_
      refine v_iaddN h 429 430 dL_minute_429 rfl ?_
      refine v_iconst (v := (-1)) h 430 431 dL_minute_430 rfl (by decide) ?_
      refine v_stQ h 431 432 t 4 dL_minute_431 rfl (by omega) (by omega) ?_
      refine v_aload_n (i := 2) h 432 433 dL_minute_432 rfl rfl ld2 ?_
      refine v_iload (i := 5) h 433 435 dL_minute_433 rfl ld5 ?_
      refine v_iconst (v := nI 5) h 435 436 dL_minute_435 rfl (by decide) ?_
      refine v_iaddN h 436 437 dL_minute_436 rfl ?_
      refine v_dup2 h 437 438 dL_minute_437 rfl rfl rfl ?_
      refine v_ldQ h 438 439 t 5 dL_minute_438 rfl (by omega) (by omega) ?_
      simp (disch := omega) only [upd_ne, upd_self]
      refine v_iconst (v := 1) h 439 440 dL_minute_439 rfl (by decide) ?_
      refine v_iadd h 440 441 dL_minute_440 rfl ?_
      refine v_stQ h 441 442 t 5 dL_minute_441 rfl (by omega) (by omega) ?_
      refine v_aload_n (i := 2) h 442 443 dL_minute_442 rfl rfl ld2 ?_
      refine v_iload (i := 5) h 443 445 dL_minute_443 rfl ld5 ?_
      refine v_bipush (v := nI 6) h 445 447 dL_minute_445 rfl (by decide) ?_
      refine v_iaddN h 447 448 dL_minute_447 rfl ?_
      refine v_dup2 h 448 449 dL_minute_448 rfl rfl rfl ?_
      refine v_ldQ h 449 450 t 6 dL_minute_449 rfl (by omega) (by omega) ?_
      simp (disch := omega) only [upd_ne, upd_self]
      refine v_aload_n (i := 1) h 450 451 dL_minute_450 rfl rfl ld1 ?_
      refine v_iload (i := 6) h 451 453 dL_minute_451 rfl ld6 ?_
      refine v_iconst (v := nI 1) h 453 454 dL_minute_453 rfl (by decide) ?_
      refine v_iaddN h 454 455 dL_minute_454 rfl ?_
      refine v_ldE h 455 456 c 1 dL_minute_455 rfl (by omega) (by omega) ?_
      simp (disch := omega) only [upd_ne, upd_self]
      refine v_iadd h 456 457 dL_minute_456 rfl ?_
      refine v_stQ h 457 458 t 6 dL_minute_457 rfl (by omega) (by omega) ?_
      refine v_goto h 458 499 dL_minute_458 (by decide) ?_
      refine V.world (congrArg (fun z => lw E B z w) ?_) (V.weakT kk (And.intro rfl (And.intro rfl (And.intro rfl (And.intro rfl (And.intro rfl trivial))))))
      rw [fin_fK (by omega) (by omega) (by omega) IA.c12 e4]
      funext i
      by_cases q9 : i = 9
      · subst q9
        simp (disch := omega) only [upd_self, upd_ne]
      rw [upd_ne (fK Z t c ne) _ q9]
      unfold fK
      rw [F0, IA.c9, nI_1, IA.c12, nI_1]
      by_cases p0 : i = 12
      · rw [if_pos p0]
        subst p0
        simp (disch := omega) only [upd_self, upd_ne, if9, e4, mn30]
      rw [if_neg p0]
      by_cases p1 : i = 157 + ne
      · rw [if_pos p1]
        subst p1
        simp (disch := omega) only [upd_self, upd_ne, if9, e4, mn30]
      rw [if_neg p1]
      by_cases p2 : i = 13 + 8 * c + 4
      · rw [if_pos p2]
        subst p2
        simp (disch := omega) only [upd_self, upd_ne, if9, e4, mn30]
      rw [if_neg p2]
      by_cases p3 : i = 13 + 8 * c + 6
      · rw [if_pos p3]
        subst p3
        simp (disch := omega) only [upd_self, upd_ne, if9, e4, mn30]
      rw [if_neg p3]
      by_cases p4 : i = 125 + 8 * t + 5
      · rw [if_pos p4]
        subst p4
        simp (disch := omega) only [upd_self, upd_ne, if9, e4, mn30]
      rw [if_neg p4]
      by_cases p5 : i = 125 + 8 * t + 6
      · rw [if_pos p5]
        subst p5
        simp (disch := omega) only [upd_self, upd_ne, if9, e4, mn30]
      rw [if_neg p5]
      by_cases p6 : i = 125 + 8 * t + 1
      · rw [if_pos p6]
        subst p6
        simp (disch := omega) only [upd_self, upd_ne, if9, e4, mn30]
      rw [if_neg p6]
      by_cases p7 : i = 125 + 8 * t + 2
      · rw [if_pos p7]
        subst p7
        simp (disch := omega) only [upd_self, upd_ne, if9, e4, mn30]
      rw [if_neg p7]
      by_cases p8 : i = 125 + 8 * t + 3
      · rw [if_pos p8]
        subst p8
        simp (disch := omega) only [upd_self, upd_ne, if9, e4, mn30]
      rw [if_neg p8]
      by_cases p9 : i = 125 + 8 * t + 4
      · rw [if_pos p9]
        subst p9
        simp (disch := omega) only [upd_self, upd_ne, if9, e4, mn30]
      rw [if_neg p9]
      by_cases r0 : i = 10
      · subst r0
        simp (disch := omega) only [upd_self, upd_ne, Int32.add_zero]
      by_cases r1 : i = 11
      · subst r1
        simp (disch := omega) only [upd_self, upd_ne, Int32.add_zero]
      simp (disch := omega) only [upd_ne]

