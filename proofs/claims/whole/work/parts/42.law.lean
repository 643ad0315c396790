/-! THE LAW'S BODY -/
def d00 : DR := (rstS (fun _ => 0) 3, fun _ => 0, fun _ _ => 0, 0, 0, 0, fun _ => 0)
def r00 : MR := (s0 6, fun _ _ => 0, fun _ => 0, fun _ => 0, fun _ => 0, fun _ => 0, 0)
theorem rel_0 : Rel d00 r00 (fun _ => 0) := by
  have hI : Inv (s0 6) 3 0 0 0 0 := by
    refine ⟨⟨⟨rfl, by omega, by omega, fun k hk => ⟨4, by omega, by omega, ?_⟩⟩, rfl, by omega, rfl, by omega, rfl, rfl⟩, rfl, fun c hc => by omega, fun t ht => by omega⟩
    rcases (show k = 0 ∨ k = 1 ∨ k = 2 ∨ k = 3 ∨ k = 4 ∨ k = 5 by omega) with rfl | rfl | rfl | rfl | rfl | rfl <;> rfl
  have hA : Ag 0 0 0 (rstS (fun _ => 0) 3) (s0 6) := by
    intro i h
    have h13 : i < 13 := by unfold liveQ at h; omega
    rcases (show i = 0 ∨ i = 1 ∨ i = 2 ∨ i = 3 ∨ i = 4 ∨ i = 5 ∨ i = 6 ∨ i = 7 ∨ i = 8 ∨ i = 9 ∨ i = 10 ∨ i = 11 ∨ i = 12 by omega) with rfl | rfl | rfl | rfl | rfl | rfl | rfl | rfl | rfl | rfl | rfl | rfl | rfl <;> rfl
  exact ⟨⟨3, 0, 0, 0, 0, hI, by omega, hA⟩, ⟨by show 0 < 4; omega, by show 0 ≤ 4; omega, rfl⟩, ⟨by show 0 ≤ 100; omega, rfl, rfl⟩, fun i hi => absurd hi (Nat.not_lt_zero i)⟩
/-- the law's locals -/
def lLo (b D i : Nat) : Lo := [some (.ref b), some (.ref D), some (.ref (D + 141)), some (.ref (D + 148)), some (.int (nI i)), none, none, none, none]
/-- the law goes on at pc from any state in which the two hold the same -/
def GoOn (E : EE) (Γ : Cx) (b D i k n pc : Nat) (w0 : Nat → Option va_E) : Prop := ∀ (d : DR) (r : MR) (t : St) (nh : Nat) (g : Nat → Int64), Rel d r t → V E Γ k n pc (lLo b D i) [] (sW E D d r t nh g w0)
theorem nle5 {N i : Nat} (hN : N < 2 ^ 30) (hi : i < 2 ^ 30) (h : ¬ nI N - 5 < nI i) : i + 5 ≤ N := by
  by_cases q : 5 ≤ N
  · rw [show nI N - 5 = nI (N - 5) from pk_sub (a := N) (b := 5) q] at h
    rcases Nat.lt_or_ge (N - 5) i with z | z
    · exact absurd (nI_lt z (by omega)) h
    · omega
  · exfalso
    apply h
    have hs : nI N - 5 < 0 := by
      rcases (show N = 0 ∨ N = 1 ∨ N = 2 ∨ N = 3 ∨ N = 4 by omega) with rfl | rfl | rfl | rfl | rfl <;> decide
    exact Int32.lt_of_lt_of_le hs (nlt_le (nI_pos (by omega)))
theorem thr_s {E : EE} {D : Nat} {d : DR} {r : MR} {t : St} {n : Nat} {g : Nat → Int64} {w0 : Nat → Option va_E} : Cd E mX4_thrown (sW E D d r t n g w0) [.ref (D + 141)] (some (.int (r.2.2.2.2.2.1 2))) (sW E D d r t n g w0) := by
  rw [sW_ml]
  exact k_thrown
set_option maxRecDepth 100000 in
set_option maxHeartbeats 4000000 in
theorem b_addChair {E : EE} {Γ : Cx} {b D N i k n : Nat} {xs : Nat → Int32} {w0 : Nat → Option va_E} (h : OkB E Γ mLaw RL) (hZ : ZG E Γ) (hX : XG E Γ b N xs) (hE : E.1.stackTraces = false) (hN : N < 2 ^ 31) (hi : i + 5 ≤ N) (hk : k + 1 ≤ 601024 ∧ n + 6 ≤ 7293034) (nx : GoOn E Γ b D i (k + 1) (n + 6) 1284 w0) : GoOn E Γ b D i k n 144 w0 := by
  intro d r t nh g hR
  by_cases e4 : xs (i + 4) = 0
  · obtain ⟨c, x, g', d', r', t', o1, o2, o3, o4, o5⟩ := op_addChair (D := D) (n := nh) (g := g) (w0 := w0) hE hR (xs (i + 1)) (xs (i + 2)) (xs (i + 3)) 0 (Or.inl rfl)
    unfold lLo
    refine v_aload_n (i := 1) h 144 145 dL_law_144 rfl rfl ld1 ?_
    refine v_aload_n (i := 0) h 145 146 dL_law_145 rfl rfl ld0 ?_
    refine v_iload (i := 4) h 146 148 dL_law_146 rfl ld4 ?_
    refine v_iconst (v := nI 1) h 148 149 dL_law_148 rfl (by decide) ?_
    refine v_iadd h 149 150 dL_law_149 rfl ?_
    rw [nI_add]
    refine v_sld h hX 150 151 (i := i + 1) (by omega) hN dL_law_150 rfl ?_
    refine v_aload_n (i := 0) h 151 152 dL_law_151 rfl rfl ld0 ?_
    refine v_iload (i := 4) h 152 154 dL_law_152 rfl ld4 ?_
    refine v_iconst (v := nI 2) h 154 155 dL_law_154 rfl (by decide) ?_
    refine v_iadd h 155 156 dL_law_155 rfl ?_
    rw [nI_add]
    refine v_sld h hX 156 157 (i := i + 2) (by omega) hN dL_law_156 rfl ?_
    refine v_aload_n (i := 0) h 157 158 dL_law_157 rfl rfl ld0 ?_
    refine v_iload (i := 4) h 158 160 dL_law_158 rfl ld4 ?_
    refine v_iconst (v := nI 3) h 160 161 dL_law_160 rfl (by decide) ?_
    refine v_iadd h 161 162 dL_law_161 rfl ?_
    rw [nI_add]
    refine v_sld h hX 162 163 (i := i + 3) (by omega) hN dL_law_162 rfl ?_
    refine v_aload_n (i := 0) h 163 164 dL_law_163 rfl rfl ld0 ?_
    refine v_iload (i := 4) h 164 166 dL_law_164 rfl ld4 ?_
    refine v_iconst (v := nI 4) h 166 167 dL_law_166 rfl (by decide) ?_
    refine v_iadd h 167 168 dL_law_167 rfl ?_
    rw [nI_add]
    refine v_sld h hX 168 169 (i := i + 4) (by omega) hN dL_law_168 rfl ?_
    refine v_if_eq h 169 172 176 dL_law_169 rfl (by decide) (fun _ => ?_) (fun hh => absurd e4 hh)
    refine v_iconst (v := 0) h 176 177 dL_law_176 rfl (by decide) ?_
    refine v_aload_n (i := 3) h 177 178 dL_law_177 rfl rfl ld3 ?_
    refine v_callS1h h hZ 178 181 dL_law_178 rfl cb_L_addChair cs_L_addChair lk_L_71 (rok (by decide) (by decide)) ⟨hk.1, hk.2⟩ o1 rfl rfl (Nat.le_of_ble_eq_true rfl) (fun n' hn' => ?_)
    refine V.world (w' := sW E D d' r t n' g' w0) rfl ?_
    refine v_istore (i := 5) h 181 183 dL_law_181 rfl (by decide) (so5 rfl) ?_
    refine v_aload_n (i := 2) h 183 184 dL_law_183 rfl rfl ld2 ?_
    refine v_aload_n (i := 0) h 184 185 dL_law_184 rfl rfl ld0 ?_
    refine v_iload (i := 4) h 185 187 dL_law_185 rfl ld4 ?_
    refine v_iconst (v := nI 1) h 187 188 dL_law_187 rfl (by decide) ?_
    refine v_iadd h 188 189 dL_law_188 rfl ?_
    rw [nI_add]
    refine v_sld h hX 189 190 (i := i + 1) (by omega) hN dL_law_189 rfl ?_
    refine v_aload_n (i := 0) h 190 191 dL_law_190 rfl rfl ld0 ?_
    refine v_iload (i := 4) h 191 193 dL_law_191 rfl ld4 ?_
    refine v_iconst (v := nI 2) h 193 194 dL_law_193 rfl (by decide) ?_
    refine v_iadd h 194 195 dL_law_194 rfl ?_
    rw [nI_add]
    refine v_sld h hX 195 196 (i := i + 2) (by omega) hN dL_law_195 rfl ?_
    refine v_aload_n (i := 0) h 196 197 dL_law_196 rfl rfl ld0 ?_
    refine v_iload (i := 4) h 197 199 dL_law_197 rfl ld4 ?_
    refine v_iconst (v := nI 3) h 199 200 dL_law_199 rfl (by decide) ?_
    refine v_iadd h 200 201 dL_law_200 rfl ?_
    rw [nI_add]
    refine v_sld h hX 201 202 (i := i + 3) (by omega) hN dL_law_201 rfl ?_
    refine v_aload_n (i := 0) h 202 203 dL_law_202 rfl rfl ld0 ?_
    refine v_iload (i := 4) h 203 205 dL_law_203 rfl ld4 ?_
    refine v_iconst (v := nI 4) h 205 206 dL_law_205 rfl (by decide) ?_
    refine v_iadd h 206 207 dL_law_206 rfl ?_
    rw [nI_add]
    refine v_sld h hX 207 208 (i := i + 4) (by omega) hN dL_law_207 rfl ?_
    refine v_if_eq h 208 211 215 dL_law_208 rfl (by decide) (fun _ => ?_) (fun hh => absurd e4 hh)
    refine v_iconst (v := 0) h 215 216 dL_law_215 rfl (by decide) ?_
    refine v_callV1 h 216 219 dL_law_216 rfl cb_X4_addChair cv_X4_addChair sW_m lk_L_76 (rok (by decide) (by decide)) ⟨rfl, rfl⟩ ⟨hk.1, hk.2⟩ (o2 n') rfl rfl (Nat.le_of_ble_eq_true rfl) ?_
    refine v_istore (i := 6) h 219 221 dL_law_219 rfl (by decide) (so6 rfl) ?_
    refine v_aload_n (i := 2) h 221 222 dL_law_221 rfl rfl ld2 ?_
    refine v_callV1 h 222 225 dL_law_222 rfl cb_X4_thrown cv_X4_thrown sW_m lk_L_77 (rok (by decide) (by decide)) ⟨rfl, rfl⟩ ⟨hk.1, hk.2⟩ thr_s rfl rfl (Nat.le_of_ble_eq_true rfl) ?_
    rw [o3]
    refine v_iload (i := 5) h 225 227 dL_law_225 rfl ld5 ?_
    refine v_icmp_eq h 227 230 232 dL_law_227 rfl (by decide) (fun _ => ?_) (fun hh => absurd rfl hh)
    refine v_iload (i := 5) h 232 234 dL_law_232 rfl ld5 ?_
    refine v_if_ne h 234 237 249 dL_law_234 rfl (by decide) (fun _ => ?_) (fun h0 => ?_)
    · refine v_goto h 249 1284 dL_law_249 (by decide) ?_
      exact V.weakT (nx d' r' t' n' g' o5) (And.intro rfl (And.intro rfl (And.intro rfl (And.intro rfl (And.intro rfl trivial)))))
    · refine v_aload_n (i := 3) h 237 238 dL_law_237 rfl rfl ld3 ?_
      refine v_iconst (v := nI 0) h 238 239 dL_law_238 rfl (by decide) ?_
      refine v_lald h 239 240 dL_law_239 rfl sW_o (vp_in_nI (n := 0) (by omega) (by decide)) ?_
      rw [nI_clamp (by omega), o4 h0]
      refine v_iload (i := 6) h 240 242 dL_law_240 rfl ld6 ?_
      refine v_i2l h 242 243 dL_law_242 rfl rfl ?_
      refine v_lcmp0 h 243 244 dL_law_243 rfl ?_
      refine v_if_eq h 244 247 249 dL_law_244 rfl (by decide) (fun _ => ?_) (fun hh => absurd rfl hh)
      refine v_goto h 249 1284 dL_law_249 (by decide) ?_
      exact V.weakT (nx d' r' t' n' g' o5) (And.intro rfl (And.intro rfl (And.intro rfl (And.intro rfl (And.intro rfl trivial)))))
  · obtain ⟨c, x, g', d', r', t', o1, o2, o3, o4, o5⟩ := op_addChair (D := D) (n := nh) (g := g) (w0 := w0) hE hR (xs (i + 1)) (xs (i + 2)) (xs (i + 3)) 1 (Or.inr rfl)
    unfold lLo
    refine v_aload_n (i := 1) h 144 145 dL_law_144 rfl rfl ld1 ?_
    refine v_aload_n (i := 0) h 145 146 dL_law_145 rfl rfl ld0 ?_
    refine v_iload (i := 4) h 146 148 dL_law_146 rfl ld4 ?_
    refine v_iconst (v := nI 1) h 148 149 dL_law_148 rfl (by decide) ?_
    refine v_iadd h 149 150 dL_law_149 rfl ?_
    rw [nI_add]
    refine v_sld h hX 150 151 (i := i + 1) (by omega) hN dL_law_150 rfl ?_
    refine v_aload_n (i := 0) h 151 152 dL_law_151 rfl rfl ld0 ?_
    refine v_iload (i := 4) h 152 154 dL_law_152 rfl ld4 ?_
    refine v_iconst (v := nI 2) h 154 155 dL_law_154 rfl (by decide) ?_
    refine v_iadd h 155 156 dL_law_155 rfl ?_
    rw [nI_add]
    refine v_sld h hX 156 157 (i := i + 2) (by omega) hN dL_law_156 rfl ?_
    refine v_aload_n (i := 0) h 157 158 dL_law_157 rfl rfl ld0 ?_
    refine v_iload (i := 4) h 158 160 dL_law_158 rfl ld4 ?_
    refine v_iconst (v := nI 3) h 160 161 dL_law_160 rfl (by decide) ?_
    refine v_iadd h 161 162 dL_law_161 rfl ?_
    rw [nI_add]
    refine v_sld h hX 162 163 (i := i + 3) (by omega) hN dL_law_162 rfl ?_
    refine v_aload_n (i := 0) h 163 164 dL_law_163 rfl rfl ld0 ?_
    refine v_iload (i := 4) h 164 166 dL_law_164 rfl ld4 ?_
    refine v_iconst (v := nI 4) h 166 167 dL_law_166 rfl (by decide) ?_
    refine v_iadd h 167 168 dL_law_167 rfl ?_
    rw [nI_add]
    refine v_sld h hX 168 169 (i := i + 4) (by omega) hN dL_law_168 rfl ?_
    refine v_if_eq h 169 172 176 dL_law_169 rfl (by decide) (fun hh => absurd hh e4) (fun _ => ?_)
    refine v_iconst (v := 1) h 172 173 dL_law_172 rfl (by decide) ?_
    refine v_goto h 173 177 dL_law_173 (by decide) ?_
    refine v_aload_n (i := 3) h 177 178 dL_law_177 rfl rfl ld3 ?_
    refine v_callS1h h hZ 178 181 dL_law_178 rfl cb_L_addChair cs_L_addChair lk_L_71 (rok (by decide) (by decide)) ⟨hk.1, hk.2⟩ o1 rfl rfl (Nat.le_of_ble_eq_true rfl) (fun n' hn' => ?_)
    refine V.world (w' := sW E D d' r t n' g' w0) rfl ?_
    refine v_istore (i := 5) h 181 183 dL_law_181 rfl (by decide) (so5 rfl) ?_
    refine v_aload_n (i := 2) h 183 184 dL_law_183 rfl rfl ld2 ?_
    refine v_aload_n (i := 0) h 184 185 dL_law_184 rfl rfl ld0 ?_
    refine v_iload (i := 4) h 185 187 dL_law_185 rfl ld4 ?_
    refine v_iconst (v := nI 1) h 187 188 dL_law_187 rfl (by decide) ?_
    refine v_iadd h 188 189 dL_law_188 rfl ?_
    rw [nI_add]
    refine v_sld h hX 189 190 (i := i + 1) (by omega) hN dL_law_189 rfl ?_
    refine v_aload_n (i := 0) h 190 191 dL_law_190 rfl rfl ld0 ?_
    refine v_iload (i := 4) h 191 193 dL_law_191 rfl ld4 ?_
    refine v_iconst (v := nI 2) h 193 194 dL_law_193 rfl (by decide) ?_
    refine v_iadd h 194 195 dL_law_194 rfl ?_
    rw [nI_add]
    refine v_sld h hX 195 196 (i := i + 2) (by omega) hN dL_law_195 rfl ?_
    refine v_aload_n (i := 0) h 196 197 dL_law_196 rfl rfl ld0 ?_
    refine v_iload (i := 4) h 197 199 dL_law_197 rfl ld4 ?_
    refine v_iconst (v := nI 3) h 199 200 dL_law_199 rfl (by decide) ?_
    refine v_iadd h 200 201 dL_law_200 rfl ?_
    rw [nI_add]
    refine v_sld h hX 201 202 (i := i + 3) (by omega) hN dL_law_201 rfl ?_
    refine v_aload_n (i := 0) h 202 203 dL_law_202 rfl rfl ld0 ?_
    refine v_iload (i := 4) h 203 205 dL_law_203 rfl ld4 ?_
    refine v_iconst (v := nI 4) h 205 206 dL_law_205 rfl (by decide) ?_
    refine v_iadd h 206 207 dL_law_206 rfl ?_
    rw [nI_add]
    refine v_sld h hX 207 208 (i := i + 4) (by omega) hN dL_law_207 rfl ?_
    refine v_if_eq h 208 211 215 dL_law_208 rfl (by decide) (fun hh => absurd hh e4) (fun _ => ?_)
    refine v_iconst (v := 1) h 211 212 dL_law_211 rfl (by decide) ?_
    refine v_goto h 212 216 dL_law_212 (by decide) ?_
    refine v_callV1 h 216 219 dL_law_216 rfl cb_X4_addChair cv_X4_addChair sW_m lk_L_76 (rok (by decide) (by decide)) ⟨rfl, rfl⟩ ⟨hk.1, hk.2⟩ (o2 n') rfl rfl (Nat.le_of_ble_eq_true rfl) ?_
    refine v_istore (i := 6) h 219 221 dL_law_219 rfl (by decide) (so6 rfl) ?_
    refine v_aload_n (i := 2) h 221 222 dL_law_221 rfl rfl ld2 ?_
    refine v_callV1 h 222 225 dL_law_222 rfl cb_X4_thrown cv_X4_thrown sW_m lk_L_77 (rok (by decide) (by decide)) ⟨rfl, rfl⟩ ⟨hk.1, hk.2⟩ thr_s rfl rfl (Nat.le_of_ble_eq_true rfl) ?_
    rw [o3]
    refine v_iload (i := 5) h 225 227 dL_law_225 rfl ld5 ?_
    refine v_icmp_eq h 227 230 232 dL_law_227 rfl (by decide) (fun _ => ?_) (fun hh => absurd rfl hh)
    refine v_iload (i := 5) h 232 234 dL_law_232 rfl ld5 ?_
    refine v_if_ne h 234 237 249 dL_law_234 rfl (by decide) (fun _ => ?_) (fun h0 => ?_)
    · refine v_goto h 249 1284 dL_law_249 (by decide) ?_
      exact V.weakT (nx d' r' t' n' g' o5) (And.intro rfl (And.intro rfl (And.intro rfl (And.intro rfl (And.intro rfl trivial)))))
    · refine v_aload_n (i := 3) h 237 238 dL_law_237 rfl rfl ld3 ?_
      refine v_iconst (v := nI 0) h 238 239 dL_law_238 rfl (by decide) ?_
      refine v_lald h 239 240 dL_law_239 rfl sW_o (vp_in_nI (n := 0) (by omega) (by decide)) ?_
      rw [nI_clamp (by omega), o4 h0]
      refine v_iload (i := 6) h 240 242 dL_law_240 rfl ld6 ?_
      refine v_i2l h 242 243 dL_law_242 rfl rfl ?_
      refine v_lcmp0 h 243 244 dL_law_243 rfl ?_
      refine v_if_eq h 244 247 249 dL_law_244 rfl (by decide) (fun _ => ?_) (fun hh => absurd rfl hh)
      refine v_goto h 249 1284 dL_law_249 (by decide) ?_
      exact V.weakT (nx d' r' t' n' g' o5) (And.intro rfl (And.intro rfl (And.intro rfl (And.intro rfl (And.intro rfl trivial)))))
set_option maxRecDepth 100000 in
set_option maxHeartbeats 4000000 in
theorem b_addTeam {E : EE} {Γ : Cx} {b D N i k n : Nat} {xs : Nat → Int32} {w0 : Nat → Option va_E} (h : OkB E Γ mLaw RL) (hZ : ZG E Γ) (hX : XG E Γ b N xs) (hE : E.1.stackTraces = false) (hN : N < 2 ^ 31) (hi : i + 5 ≤ N) (hk : k + 1 ≤ 601024 ∧ n + 6 ≤ 7293034) (nx : GoOn E Γ b D i (k + 1) (n + 6) 1284 w0) : GoOn E Γ b D i k n 252 w0 := by
  intro d r t nh g hR
  obtain ⟨c, x, g', d', r', t', o1, o2, o3, o4, o5⟩ := op_addTeam (D := D) (n := nh) (g := g) (w0 := w0) hE hR (xs (i + 1)) (xs (i + 2))
  unfold lLo
  refine v_aload_n (i := 1) h 252 253 dL_law_252 rfl rfl ld1 ?_
  refine v_aload_n (i := 0) h 253 254 dL_law_253 rfl rfl ld0 ?_
  refine v_iload (i := 4) h 254 256 dL_law_254 rfl ld4 ?_
  refine v_iconst (v := nI 1) h 256 257 dL_law_256 rfl (by decide) ?_
  refine v_iadd h 257 258 dL_law_257 rfl ?_
  rw [nI_add]
  refine v_sld h hX 258 259 (i := i + 1) (by omega) hN dL_law_258 rfl ?_
  refine v_aload_n (i := 0) h 259 260 dL_law_259 rfl rfl ld0 ?_
  refine v_iload (i := 4) h 260 262 dL_law_260 rfl ld4 ?_
  refine v_iconst (v := nI 2) h 262 263 dL_law_262 rfl (by decide) ?_
  refine v_iadd h 263 264 dL_law_263 rfl ?_
  rw [nI_add]
  refine v_sld h hX 264 265 (i := i + 2) (by omega) hN dL_law_264 rfl ?_
  refine v_aload_n (i := 3) h 265 266 dL_law_265 rfl rfl ld3 ?_
  refine v_callS1h h hZ 266 269 dL_law_266 rfl cb_L_addTeam cs_L_addTeam lk_L_80 (rok (by decide) (by decide)) ⟨hk.1, hk.2⟩ o1 rfl rfl (Nat.le_of_ble_eq_true rfl) (fun n' hn' => ?_)
  refine V.world (w' := sW E D d' r t n' g' w0) rfl ?_
  refine v_istore (i := 5) h 269 271 dL_law_269 rfl (by decide) (so5 rfl) ?_
  refine v_aload_n (i := 2) h 271 272 dL_law_271 rfl rfl ld2 ?_
  refine v_aload_n (i := 0) h 272 273 dL_law_272 rfl rfl ld0 ?_
  refine v_iload (i := 4) h 273 275 dL_law_273 rfl ld4 ?_
  refine v_iconst (v := nI 1) h 275 276 dL_law_275 rfl (by decide) ?_
  refine v_iadd h 276 277 dL_law_276 rfl ?_
  rw [nI_add]
  refine v_sld h hX 277 278 (i := i + 1) (by omega) hN dL_law_277 rfl ?_
  refine v_aload_n (i := 0) h 278 279 dL_law_278 rfl rfl ld0 ?_
  refine v_iload (i := 4) h 279 281 dL_law_279 rfl ld4 ?_
  refine v_iconst (v := nI 2) h 281 282 dL_law_281 rfl (by decide) ?_
  refine v_iadd h 282 283 dL_law_282 rfl ?_
  rw [nI_add]
  refine v_sld h hX 283 284 (i := i + 2) (by omega) hN dL_law_283 rfl ?_
  refine v_callV1 h 284 287 dL_law_284 rfl cb_X4_addTeam cv_X4_addTeam sW_m lk_L_83 (rok (by decide) (by decide)) ⟨rfl, rfl⟩ ⟨hk.1, hk.2⟩ (o2 n') rfl rfl (Nat.le_of_ble_eq_true rfl) ?_
  refine v_istore (i := 6) h 287 289 dL_law_287 rfl (by decide) (so6 rfl) ?_
  refine v_aload_n (i := 2) h 289 290 dL_law_289 rfl rfl ld2 ?_
  refine v_callV1 h 290 293 dL_law_290 rfl cb_X4_thrown cv_X4_thrown sW_m lk_L_77 (rok (by decide) (by decide)) ⟨rfl, rfl⟩ ⟨hk.1, hk.2⟩ thr_s rfl rfl (Nat.le_of_ble_eq_true rfl) ?_
  rw [o3]
  refine v_iload (i := 5) h 293 295 dL_law_293 rfl ld5 ?_
  refine v_icmp_eq h 295 298 300 dL_law_295 rfl (by decide) (fun _ => ?_) (fun hh => absurd rfl hh)
  refine v_iload (i := 5) h 300 302 dL_law_300 rfl ld5 ?_
  refine v_if_ne h 302 305 317 dL_law_302 rfl (by decide) (fun _ => ?_) (fun h0 => ?_)
  · refine v_goto h 317 1284 dL_law_317 (by decide) ?_
    exact V.weakT (nx d' r' t' n' g' o5) (And.intro rfl (And.intro rfl (And.intro rfl (And.intro rfl (And.intro rfl trivial)))))
  · refine v_aload_n (i := 3) h 305 306 dL_law_305 rfl rfl ld3 ?_
    refine v_iconst (v := nI 0) h 306 307 dL_law_306 rfl (by decide) ?_
    refine v_lald h 307 308 dL_law_307 rfl sW_o (vp_in_nI (n := 0) (by omega) (by decide)) ?_
    rw [nI_clamp (by omega), o4 h0]
    refine v_iload (i := 6) h 308 310 dL_law_308 rfl ld6 ?_
    refine v_i2l h 310 311 dL_law_310 rfl rfl ?_
    refine v_lcmp0 h 311 312 dL_law_311 rfl ?_
    refine v_if_eq h 312 315 317 dL_law_312 rfl (by decide) (fun _ => ?_) (fun hh => absurd rfl hh)
    refine v_goto h 317 1284 dL_law_317 (by decide) ?_
    exact V.weakT (nx d' r' t' n' g' o5) (And.intro rfl (And.intro rfl (And.intro rfl (And.intro rfl (And.intro rfl trivial)))))
set_option maxRecDepth 100000 in
set_option maxHeartbeats 4000000 in
theorem b_setWay {E : EE} {Γ : Cx} {b D N i k n : Nat} {xs : Nat → Int32} {w0 : Nat → Option va_E} (h : OkB E Γ mLaw RL) (hZ : ZG E Γ) (hX : XG E Γ b N xs) (hE : E.1.stackTraces = false) (hN : N < 2 ^ 31) (hi : i + 5 ≤ N) (hk : k + 1 ≤ 601024 ∧ n + 6 ≤ 7293034) (nx : GoOn E Γ b D i (k + 1) (n + 6) 1284 w0) : GoOn E Γ b D i k n 320 w0 := by
  intro d r t nh g hR
  obtain ⟨c, x, g', d', r', t', o1, o2, o3, o4, o5⟩ := op_setWay (D := D) (n := nh) (g := g) (w0 := w0) hE hR (xs (i + 1)) (xs (i + 2))
  unfold lLo
  refine v_aload_n (i := 1) h 320 321 dL_law_320 rfl rfl ld1 ?_
  refine v_aload_n (i := 0) h 321 322 dL_law_321 rfl rfl ld0 ?_
  refine v_iload (i := 4) h 322 324 dL_law_322 rfl ld4 ?_
  refine v_iconst (v := nI 1) h 324 325 dL_law_324 rfl (by decide) ?_
  refine v_iadd h 325 326 dL_law_325 rfl ?_
  rw [nI_add]
  refine v_sld h hX 326 327 (i := i + 1) (by omega) hN dL_law_326 rfl ?_
  refine v_aload_n (i := 0) h 327 328 dL_law_327 rfl rfl ld0 ?_
  refine v_iload (i := 4) h 328 330 dL_law_328 rfl ld4 ?_
  refine v_iconst (v := nI 2) h 330 331 dL_law_330 rfl (by decide) ?_
  refine v_iadd h 331 332 dL_law_331 rfl ?_
  rw [nI_add]
  refine v_sld h hX 332 333 (i := i + 2) (by omega) hN dL_law_332 rfl ?_
  refine v_aload_n (i := 3) h 333 334 dL_law_333 rfl rfl ld3 ?_
  refine v_callS1h h hZ 334 337 dL_law_334 rfl cb_L_setWay cs_L_setWay lk_L_84 (rok (by decide) (by decide)) ⟨hk.1, hk.2⟩ o1 rfl rfl (Nat.le_of_ble_eq_true rfl) (fun n' hn' => ?_)
  refine V.world (w' := sW E D d' r t n' g' w0) rfl ?_
  refine v_istore (i := 5) h 337 339 dL_law_337 rfl (by decide) (so5 rfl) ?_
  refine v_aload_n (i := 2) h 339 340 dL_law_339 rfl rfl ld2 ?_
  refine v_aload_n (i := 0) h 340 341 dL_law_340 rfl rfl ld0 ?_
  refine v_iload (i := 4) h 341 343 dL_law_341 rfl ld4 ?_
  refine v_iconst (v := nI 1) h 343 344 dL_law_343 rfl (by decide) ?_
  refine v_iadd h 344 345 dL_law_344 rfl ?_
  rw [nI_add]
  refine v_sld h hX 345 346 (i := i + 1) (by omega) hN dL_law_345 rfl ?_
  refine v_aload_n (i := 0) h 346 347 dL_law_346 rfl rfl ld0 ?_
  refine v_iload (i := 4) h 347 349 dL_law_347 rfl ld4 ?_
  refine v_iconst (v := nI 2) h 349 350 dL_law_349 rfl (by decide) ?_
  refine v_iadd h 350 351 dL_law_350 rfl ?_
  rw [nI_add]
  refine v_sld h hX 351 352 (i := i + 2) (by omega) hN dL_law_351 rfl ?_
  refine v_callV1 h 352 355 dL_law_352 rfl cb_X4_setWay cv_X4_setWay sW_m lk_L_86 (rok (by decide) (by decide)) ⟨rfl, rfl⟩ ⟨hk.1, hk.2⟩ (o2 n') rfl rfl (Nat.le_of_ble_eq_true rfl) ?_
  refine v_istore (i := 6) h 355 357 dL_law_355 rfl (by decide) (so6 rfl) ?_
  refine v_aload_n (i := 2) h 357 358 dL_law_357 rfl rfl ld2 ?_
  refine v_callV1 h 358 361 dL_law_358 rfl cb_X4_thrown cv_X4_thrown sW_m lk_L_77 (rok (by decide) (by decide)) ⟨rfl, rfl⟩ ⟨hk.1, hk.2⟩ thr_s rfl rfl (Nat.le_of_ble_eq_true rfl) ?_
  rw [o3]
  refine v_iload (i := 5) h 361 363 dL_law_361 rfl ld5 ?_
  refine v_icmp_eq h 363 366 368 dL_law_363 rfl (by decide) (fun _ => ?_) (fun hh => absurd rfl hh)
  refine v_iload (i := 5) h 368 370 dL_law_368 rfl ld5 ?_
  refine v_if_ne h 370 373 385 dL_law_370 rfl (by decide) (fun _ => ?_) (fun h0 => ?_)
  · refine v_goto h 385 1284 dL_law_385 (by decide) ?_
    exact V.weakT (nx d' r' t' n' g' o5) (And.intro rfl (And.intro rfl (And.intro rfl (And.intro rfl (And.intro rfl trivial)))))
  · refine v_aload_n (i := 3) h 373 374 dL_law_373 rfl rfl ld3 ?_
    refine v_iconst (v := nI 0) h 374 375 dL_law_374 rfl (by decide) ?_
    refine v_lald h 375 376 dL_law_375 rfl sW_o (vp_in_nI (n := 0) (by omega) (by decide)) ?_
    rw [nI_clamp (by omega), o4 h0]
    refine v_iload (i := 6) h 376 378 dL_law_376 rfl ld6 ?_
    refine v_i2l h 378 379 dL_law_378 rfl rfl ?_
    refine v_lcmp0 h 379 380 dL_law_379 rfl ?_
    refine v_if_eq h 380 383 385 dL_law_380 rfl (by decide) (fun _ => ?_) (fun hh => absurd rfl hh)
    refine v_goto h 385 1284 dL_law_385 (by decide) ?_
    exact V.weakT (nx d' r' t' n' g' o5) (And.intro rfl (And.intro rfl (And.intro rfl (And.intro rfl (And.intro rfl trivial)))))
set_option maxRecDepth 100000 in
set_option maxHeartbeats 4000000 in
theorem b_setCold {E : EE} {Γ : Cx} {b D N i k n : Nat} {xs : Nat → Int32} {w0 : Nat → Option va_E} (h : OkB E Γ mLaw RL) (hZ : ZG E Γ) (hX : XG E Γ b N xs) (hE : E.1.stackTraces = false) (hN : N < 2 ^ 31) (hi : i + 5 ≤ N) (hk : k + 1 ≤ 601024 ∧ n + 6 ≤ 7293034) (nx : GoOn E Γ b D i (k + 1) (n + 6) 1284 w0) : GoOn E Γ b D i k n 388 w0 := by
  intro d r t nh g hR
  obtain ⟨c, x, g', d', r', t', o1, o2, o3, o4, o5⟩ := op_setCold (D := D) (n := nh) (g := g) (w0 := w0) hE hR (xs (i + 1)) (xs (i + 2))
  unfold lLo
  refine v_aload_n (i := 1) h 388 389 dL_law_388 rfl rfl ld1 ?_
  refine v_aload_n (i := 0) h 389 390 dL_law_389 rfl rfl ld0 ?_
  refine v_iload (i := 4) h 390 392 dL_law_390 rfl ld4 ?_
  refine v_iconst (v := nI 1) h 392 393 dL_law_392 rfl (by decide) ?_
  refine v_iadd h 393 394 dL_law_393 rfl ?_
  rw [nI_add]
  refine v_sld h hX 394 395 (i := i + 1) (by omega) hN dL_law_394 rfl ?_
  refine v_aload_n (i := 0) h 395 396 dL_law_395 rfl rfl ld0 ?_
  refine v_iload (i := 4) h 396 398 dL_law_396 rfl ld4 ?_
  refine v_iconst (v := nI 2) h 398 399 dL_law_398 rfl (by decide) ?_
  refine v_iadd h 399 400 dL_law_399 rfl ?_
  rw [nI_add]
  refine v_sld h hX 400 401 (i := i + 2) (by omega) hN dL_law_400 rfl ?_
  refine v_aload_n (i := 3) h 401 402 dL_law_401 rfl rfl ld3 ?_
  refine v_callS1h h hZ 402 405 dL_law_402 rfl cb_L_setCold cs_L_setCold lk_L_87 (rok (by decide) (by decide)) ⟨hk.1, hk.2⟩ o1 rfl rfl (Nat.le_of_ble_eq_true rfl) (fun n' hn' => ?_)
  refine V.world (w' := sW E D d' r t n' g' w0) rfl ?_
  refine v_istore (i := 5) h 405 407 dL_law_405 rfl (by decide) (so5 rfl) ?_
  refine v_aload_n (i := 2) h 407 408 dL_law_407 rfl rfl ld2 ?_
  refine v_aload_n (i := 0) h 408 409 dL_law_408 rfl rfl ld0 ?_
  refine v_iload (i := 4) h 409 411 dL_law_409 rfl ld4 ?_
  refine v_iconst (v := nI 1) h 411 412 dL_law_411 rfl (by decide) ?_
  refine v_iadd h 412 413 dL_law_412 rfl ?_
  rw [nI_add]
  refine v_sld h hX 413 414 (i := i + 1) (by omega) hN dL_law_413 rfl ?_
  refine v_aload_n (i := 0) h 414 415 dL_law_414 rfl rfl ld0 ?_
  refine v_iload (i := 4) h 415 417 dL_law_415 rfl ld4 ?_
  refine v_iconst (v := nI 2) h 417 418 dL_law_417 rfl (by decide) ?_
  refine v_iadd h 418 419 dL_law_418 rfl ?_
  rw [nI_add]
  refine v_sld h hX 419 420 (i := i + 2) (by omega) hN dL_law_419 rfl ?_
  refine v_callV1 h 420 423 dL_law_420 rfl cb_X4_setCold cv_X4_setCold sW_m lk_L_89 (rok (by decide) (by decide)) ⟨rfl, rfl⟩ ⟨hk.1, hk.2⟩ (o2 n') rfl rfl (Nat.le_of_ble_eq_true rfl) ?_
  refine v_istore (i := 6) h 423 425 dL_law_423 rfl (by decide) (so6 rfl) ?_
  refine v_aload_n (i := 2) h 425 426 dL_law_425 rfl rfl ld2 ?_
  refine v_callV1 h 426 429 dL_law_426 rfl cb_X4_thrown cv_X4_thrown sW_m lk_L_77 (rok (by decide) (by decide)) ⟨rfl, rfl⟩ ⟨hk.1, hk.2⟩ thr_s rfl rfl (Nat.le_of_ble_eq_true rfl) ?_
  rw [o3]
  refine v_iload (i := 5) h 429 431 dL_law_429 rfl ld5 ?_
  refine v_icmp_eq h 431 434 436 dL_law_431 rfl (by decide) (fun _ => ?_) (fun hh => absurd rfl hh)
  refine v_iload (i := 5) h 436 438 dL_law_436 rfl ld5 ?_
  refine v_if_ne h 438 441 453 dL_law_438 rfl (by decide) (fun _ => ?_) (fun h0 => ?_)
  · refine v_goto h 453 1284 dL_law_453 (by decide) ?_
    exact V.weakT (nx d' r' t' n' g' o5) (And.intro rfl (And.intro rfl (And.intro rfl (And.intro rfl (And.intro rfl trivial)))))
  · refine v_aload_n (i := 3) h 441 442 dL_law_441 rfl rfl ld3 ?_
    refine v_iconst (v := nI 0) h 442 443 dL_law_442 rfl (by decide) ?_
    refine v_lald h 443 444 dL_law_443 rfl sW_o (vp_in_nI (n := 0) (by omega) (by decide)) ?_
    rw [nI_clamp (by omega), o4 h0]
    refine v_iload (i := 6) h 444 446 dL_law_444 rfl ld6 ?_
    refine v_i2l h 446 447 dL_law_446 rfl rfl ?_
    refine v_lcmp0 h 447 448 dL_law_447 rfl ?_
    refine v_if_eq h 448 451 453 dL_law_448 rfl (by decide) (fun _ => ?_) (fun hh => absurd rfl hh)
    refine v_goto h 453 1284 dL_law_453 (by decide) ?_
    exact V.weakT (nx d' r' t' n' g' o5) (And.intro rfl (And.intro rfl (And.intro rfl (And.intro rfl (And.intro rfl trivial)))))
set_option maxRecDepth 100000 in
set_option maxHeartbeats 4000000 in
theorem b_callOff {E : EE} {Γ : Cx} {b D N i k n : Nat} {xs : Nat → Int32} {w0 : Nat → Option va_E} (h : OkB E Γ mLaw RL) (hZ : ZG E Γ) (hX : XG E Γ b N xs) (hE : E.1.stackTraces = false) (hN : N < 2 ^ 31) (hi : i + 5 ≤ N) (hk : k + 1 ≤ 601024 ∧ n + 6 ≤ 7293034) (nx : GoOn E Γ b D i (k + 1) (n + 6) 1284 w0) : GoOn E Γ b D i k n 456 w0 := by
  intro d r t nh g hR
  obtain ⟨c, x, g', d', r', t', o1, o2, o3, o4, o5⟩ := op_callOff (D := D) (n := nh) (g := g) (w0 := w0) hE hR (xs (i + 1))
  unfold lLo
  refine v_aload_n (i := 1) h 456 457 dL_law_456 rfl rfl ld1 ?_
  refine v_aload_n (i := 0) h 457 458 dL_law_457 rfl rfl ld0 ?_
  refine v_iload (i := 4) h 458 460 dL_law_458 rfl ld4 ?_
  refine v_iconst (v := nI 1) h 460 461 dL_law_460 rfl (by decide) ?_
  refine v_iadd h 461 462 dL_law_461 rfl ?_
  rw [nI_add]
  refine v_sld h hX 462 463 (i := i + 1) (by omega) hN dL_law_462 rfl ?_
  refine v_aload_n (i := 3) h 463 464 dL_law_463 rfl rfl ld3 ?_
  refine v_callS1h h hZ 464 467 dL_law_464 rfl cb_L_callOff cs_L_callOff lk_L_90 (rok (by decide) (by decide)) ⟨hk.1, hk.2⟩ o1 rfl rfl (Nat.le_of_ble_eq_true rfl) (fun n' hn' => ?_)
  refine V.world (w' := sW E D d' r t n' g' w0) rfl ?_
  refine v_istore (i := 5) h 467 469 dL_law_467 rfl (by decide) (so5 rfl) ?_
  refine v_aload_n (i := 2) h 469 470 dL_law_469 rfl rfl ld2 ?_
  refine v_aload_n (i := 0) h 470 471 dL_law_470 rfl rfl ld0 ?_
  refine v_iload (i := 4) h 471 473 dL_law_471 rfl ld4 ?_
  refine v_iconst (v := nI 1) h 473 474 dL_law_473 rfl (by decide) ?_
  refine v_iadd h 474 475 dL_law_474 rfl ?_
  rw [nI_add]
  refine v_sld h hX 475 476 (i := i + 1) (by omega) hN dL_law_475 rfl ?_
  refine v_callV1 h 476 479 dL_law_476 rfl cb_X4_callOff cv_X4_callOff sW_m lk_L_93 (rok (by decide) (by decide)) ⟨rfl, rfl⟩ ⟨hk.1, hk.2⟩ (o2 n') rfl rfl (Nat.le_of_ble_eq_true rfl) ?_
  refine v_istore (i := 6) h 479 481 dL_law_479 rfl (by decide) (so6 rfl) ?_
  refine v_aload_n (i := 2) h 481 482 dL_law_481 rfl rfl ld2 ?_
  refine v_callV1 h 482 485 dL_law_482 rfl cb_X4_thrown cv_X4_thrown sW_m lk_L_77 (rok (by decide) (by decide)) ⟨rfl, rfl⟩ ⟨hk.1, hk.2⟩ thr_s rfl rfl (Nat.le_of_ble_eq_true rfl) ?_
  rw [o3]
  refine v_iload (i := 5) h 485 487 dL_law_485 rfl ld5 ?_
  refine v_icmp_eq h 487 490 492 dL_law_487 rfl (by decide) (fun _ => ?_) (fun hh => absurd rfl hh)
  refine v_iload (i := 5) h 492 494 dL_law_492 rfl ld5 ?_
  refine v_if_ne h 494 497 509 dL_law_494 rfl (by decide) (fun _ => ?_) (fun h0 => ?_)
  · refine v_goto h 509 1284 dL_law_509 (by decide) ?_
    exact V.weakT (nx d' r' t' n' g' o5) (And.intro rfl (And.intro rfl (And.intro rfl (And.intro rfl (And.intro rfl trivial)))))
  · refine v_aload_n (i := 3) h 497 498 dL_law_497 rfl rfl ld3 ?_
    refine v_iconst (v := nI 0) h 498 499 dL_law_498 rfl (by decide) ?_
    refine v_lald h 499 500 dL_law_499 rfl sW_o (vp_in_nI (n := 0) (by omega) (by decide)) ?_
    rw [nI_clamp (by omega), o4 h0]
    refine v_iload (i := 6) h 500 502 dL_law_500 rfl ld6 ?_
    refine v_i2l h 502 503 dL_law_502 rfl rfl ?_
    refine v_lcmp0 h 503 504 dL_law_503 rfl ?_
    refine v_if_eq h 504 507 509 dL_law_504 rfl (by decide) (fun _ => ?_) (fun hh => absurd rfl hh)
    refine v_goto h 509 1284 dL_law_509 (by decide) ?_
    exact V.weakT (nx d' r' t' n' g' o5) (And.intro rfl (And.intro rfl (And.intro rfl (And.intro rfl (And.intro rfl trivial)))))
set_option maxRecDepth 100000 in
set_option maxHeartbeats 4000000 in
theorem b_pass {E : EE} {Γ : Cx} {b D N i k n : Nat} {xs : Nat → Int32} {w0 : Nat → Option va_E} (h : OkB E Γ mLaw RL) (hZ : ZG E Γ) (hX : XG E Γ b N xs) (hE : E.1.stackTraces = false) (hN : N < 2 ^ 31) (hi : i + 5 ≤ N) (hk : k + 1 ≤ 601024 ∧ n + 6 ≤ 7293034) (nx : GoOn E Γ b D i (k + 1) (n + 6) 1284 w0) : GoOn E Γ b D i k n 512 w0 := by
  intro d r t nh g hR
  obtain ⟨c, x, g', d', r', t', o1, o2, o3, o4, o5⟩ := op_pass (D := D) (n := nh) (g := g) (w0 := w0) hE hR (xs (i + 1))
  unfold lLo
  refine v_aload_n (i := 1) h 512 513 dL_law_512 rfl rfl ld1 ?_
  refine v_aload_n (i := 0) h 513 514 dL_law_513 rfl rfl ld0 ?_
  refine v_iload (i := 4) h 514 516 dL_law_514 rfl ld4 ?_
  refine v_iconst (v := nI 1) h 516 517 dL_law_516 rfl (by decide) ?_
  refine v_iadd h 517 518 dL_law_517 rfl ?_
  rw [nI_add]
  refine v_sld h hX 518 519 (i := i + 1) (by omega) hN dL_law_518 rfl ?_
  refine v_aload_n (i := 3) h 519 520 dL_law_519 rfl rfl ld3 ?_
  refine v_callS1h h hZ 520 523 dL_law_520 rfl cb_L_pass cs_L_pass lk_L_94 (rok (by decide) (by decide)) ⟨hk.1, hk.2⟩ o1 rfl rfl (Nat.le_of_ble_eq_true rfl) (fun n' hn' => ?_)
  refine V.world (w' := sW E D d' r t n' g' w0) rfl ?_
  refine v_istore (i := 5) h 523 525 dL_law_523 rfl (by decide) (so5 rfl) ?_
  refine v_aload_n (i := 2) h 525 526 dL_law_525 rfl rfl ld2 ?_
  refine v_aload_n (i := 0) h 526 527 dL_law_526 rfl rfl ld0 ?_
  refine v_iload (i := 4) h 527 529 dL_law_527 rfl ld4 ?_
  refine v_iconst (v := nI 1) h 529 530 dL_law_529 rfl (by decide) ?_
  refine v_iadd h 530 531 dL_law_530 rfl ?_
  rw [nI_add]
  refine v_sld h hX 531 532 (i := i + 1) (by omega) hN dL_law_531 rfl ?_
  refine v_callV1 h 532 535 dL_law_532 rfl cb_X4_pass cv_X4_pass sW_m lk_L_96 (rok (by decide) (by decide)) ⟨rfl, rfl⟩ ⟨hk.1, hk.2⟩ (o2 n') rfl rfl (Nat.le_of_ble_eq_true rfl) ?_
  refine v_istore (i := 6) h 535 537 dL_law_535 rfl (by decide) (so6 rfl) ?_
  refine v_aload_n (i := 2) h 537 538 dL_law_537 rfl rfl ld2 ?_
  refine v_callV1 h 538 541 dL_law_538 rfl cb_X4_thrown cv_X4_thrown sW_m lk_L_77 (rok (by decide) (by decide)) ⟨rfl, rfl⟩ ⟨hk.1, hk.2⟩ thr_s rfl rfl (Nat.le_of_ble_eq_true rfl) ?_
  rw [o3]
  refine v_iload (i := 5) h 541 543 dL_law_541 rfl ld5 ?_
  refine v_icmp_eq h 543 546 548 dL_law_543 rfl (by decide) (fun _ => ?_) (fun hh => absurd rfl hh)
  refine v_iload (i := 5) h 548 550 dL_law_548 rfl ld5 ?_
  refine v_if_ne h 550 553 565 dL_law_550 rfl (by decide) (fun _ => ?_) (fun h0 => ?_)
  · refine v_goto h 565 1284 dL_law_565 (by decide) ?_
    exact V.weakT (nx d' r' t' n' g' o5) (And.intro rfl (And.intro rfl (And.intro rfl (And.intro rfl (And.intro rfl trivial)))))
  · refine v_aload_n (i := 3) h 553 554 dL_law_553 rfl rfl ld3 ?_
    refine v_iconst (v := nI 0) h 554 555 dL_law_554 rfl (by decide) ?_
    refine v_lald h 555 556 dL_law_555 rfl sW_o (vp_in_nI (n := 0) (by omega) (by decide)) ?_
    rw [nI_clamp (by omega), o4 h0]
    refine v_iload (i := 6) h 556 558 dL_law_556 rfl ld6 ?_
    refine v_i2l h 558 559 dL_law_558 rfl rfl ?_
    refine v_lcmp0 h 559 560 dL_law_559 rfl ?_
    refine v_if_eq h 560 563 565 dL_law_560 rfl (by decide) (fun _ => ?_) (fun hh => absurd rfl hh)
    refine v_goto h 565 1284 dL_law_565 (by decide) ?_
    exact V.weakT (nx d' r' t' n' g' o5) (And.intro rfl (And.intro rfl (And.intro rfl (And.intro rfl (And.intro rfl trivial)))))
set_option maxRecDepth 100000 in
set_option maxHeartbeats 4000000 in
theorem b_tell {E : EE} {Γ : Cx} {b D N i k n : Nat} {xs : Nat → Int32} {w0 : Nat → Option va_E} (h : OkB E Γ mLaw RL) (hZ : ZG E Γ) (hX : XG E Γ b N xs) (hE : E.1.stackTraces = false) (hN : N < 2 ^ 31) (hi : i + 5 ≤ N) (hk : k + 1 ≤ 601024 ∧ n + 6 ≤ 7293034) (nx : GoOn E Γ b D i (k + 1) (n + 6) 1284 w0) : GoOn E Γ b D i k n 568 w0 := by
  intro d r t nh g hR
  obtain ⟨v, d', r', t', o1, o2, o3⟩ := op_tell (E := E) (D := D) (n := nh) (g := g) (w0 := w0) hR
  unfold lLo
  refine v_aload_n (i := 1) h 568 569 dL_law_568 rfl rfl ld1 ?_
  refine v_callV1 h 569 572 dL_law_569 rfl cb_X3_tell cv_X3_tell sW_d lk_L_97 (rok (by decide) (by decide)) ⟨rfl, rfl⟩ ⟨by have := hk.1; show k ≤ 601024; omega, by have := hk.2; show n ≤ 7293034; omega⟩ o1 rfl rfl (Nat.le_of_ble_eq_true rfl) ?_
  refine v_aload_n (i := 2) h 572 573 dL_law_572 rfl rfl ld2 ?_
  refine v_callV1 h 573 576 dL_law_573 rfl cb_X4_tell cv_X4_tell sW_m lk_L_100 (rok (by decide) (by decide)) ⟨rfl, rfl⟩ ⟨by have := hk.1; show k ≤ 601024; omega, by have := hk.2; show n ≤ 7293034; omega⟩ o2 rfl rfl (Nat.le_of_ble_eq_true rfl) ?_
  exact v_icmp_eq h 576 579 1284 dL_law_576 rfl (by decide) (fun _ => V.widen (k' := k + 1) (n' := n + 6) (by omega) (by omega) (V.weakT (nx d' r' t' nh g o3) (And.intro rfl (And.intro rfl (And.intro rfl (And.intro rfl (And.intro rfl trivial))))))) (fun hh => absurd rfl hh)
set_option maxRecDepth 100000 in
set_option maxHeartbeats 4000000 in
theorem b_chair {E : EE} {Γ : Cx} {b D N i k n : Nat} {xs : Nat → Int32} {w0 : Nat → Option va_E} (h : OkB E Γ mLaw RL) (hZ : ZG E Γ) (hX : XG E Γ b N xs) (hE : E.1.stackTraces = false) (hN : N < 2 ^ 31) (hi : i + 5 ≤ N) (hk : k + 1 ≤ 601024 ∧ n + 6 ≤ 7293034) (nx : GoOn E Γ b D i (k + 1) (n + 6) 1284 w0) : GoOn E Γ b D i k n 581 w0 := by
  intro d r t nh g hR
  obtain ⟨c, x, g', d', r', t', o1, o2, o3, o4, o5⟩ := op_chair (D := D) (n := nh) (g := g) (w0 := w0) hE hR (xs (i + 1)) (xs (i + 2))
  unfold lLo
  refine v_aload_n (i := 1) h 581 582 dL_law_581 rfl rfl ld1 ?_
  refine v_aload_n (i := 0) h 582 583 dL_law_582 rfl rfl ld0 ?_
  refine v_iload (i := 4) h 583 585 dL_law_583 rfl ld4 ?_
  refine v_iconst (v := nI 1) h 585 586 dL_law_585 rfl (by decide) ?_
  refine v_iadd h 586 587 dL_law_586 rfl ?_
  rw [nI_add]
  refine v_sld h hX 587 588 (i := i + 1) (by omega) hN dL_law_587 rfl ?_
  refine v_aload_n (i := 0) h 588 589 dL_law_588 rfl rfl ld0 ?_
  refine v_iload (i := 4) h 589 591 dL_law_589 rfl ld4 ?_
  refine v_iconst (v := nI 2) h 591 592 dL_law_591 rfl (by decide) ?_
  refine v_iadd h 592 593 dL_law_592 rfl ?_
  rw [nI_add]
  refine v_sld h hX 593 594 (i := i + 2) (by omega) hN dL_law_593 rfl ?_
  refine v_aload_n (i := 3) h 594 595 dL_law_594 rfl rfl ld3 ?_
  refine v_callS1h h hZ 595 598 dL_law_595 rfl cb_L_chair cs_L_chair lk_L_101 (rok (by decide) (by decide)) ⟨hk.1, hk.2⟩ o1 rfl rfl (Nat.le_of_ble_eq_true rfl) (fun n' hn' => ?_)
  refine V.world (w' := sW E D d' r t n' g' w0) rfl ?_
  refine v_istore (i := 5) h 598 600 dL_law_598 rfl (by decide) (so5 rfl) ?_
  refine v_aload_n (i := 2) h 600 601 dL_law_600 rfl rfl ld2 ?_
  refine v_aload_n (i := 0) h 601 602 dL_law_601 rfl rfl ld0 ?_
  refine v_iload (i := 4) h 602 604 dL_law_602 rfl ld4 ?_
  refine v_iconst (v := nI 1) h 604 605 dL_law_604 rfl (by decide) ?_
  refine v_iadd h 605 606 dL_law_605 rfl ?_
  rw [nI_add]
  refine v_sld h hX 606 607 (i := i + 1) (by omega) hN dL_law_606 rfl ?_
  refine v_aload_n (i := 0) h 607 608 dL_law_607 rfl rfl ld0 ?_
  refine v_iload (i := 4) h 608 610 dL_law_608 rfl ld4 ?_
  refine v_iconst (v := nI 2) h 610 611 dL_law_610 rfl (by decide) ?_
  refine v_iadd h 611 612 dL_law_611 rfl ?_
  rw [nI_add]
  refine v_sld h hX 612 613 (i := i + 2) (by omega) hN dL_law_612 rfl ?_
  refine v_callV1 h 613 616 dL_law_613 rfl cb_X4_chair cv_X4_chair sW_m lk_L_103 (rok (by decide) (by decide)) ⟨rfl, rfl⟩ ⟨hk.1, hk.2⟩ (o2 n') rfl rfl (Nat.le_of_ble_eq_true rfl) ?_
  refine v_istore (i := 6) h 616 618 dL_law_616 rfl (by decide) (so6 rfl) ?_
  refine v_aload_n (i := 2) h 618 619 dL_law_618 rfl rfl ld2 ?_
  refine v_callV1 h 619 622 dL_law_619 rfl cb_X4_thrown cv_X4_thrown sW_m lk_L_77 (rok (by decide) (by decide)) ⟨rfl, rfl⟩ ⟨hk.1, hk.2⟩ thr_s rfl rfl (Nat.le_of_ble_eq_true rfl) ?_
  rw [o3]
  refine v_iload (i := 5) h 622 624 dL_law_622 rfl ld5 ?_
  refine v_icmp_eq h 624 627 629 dL_law_624 rfl (by decide) (fun _ => ?_) (fun hh => absurd rfl hh)
  refine v_iload (i := 5) h 629 631 dL_law_629 rfl ld5 ?_
  refine v_if_ne h 631 634 646 dL_law_631 rfl (by decide) (fun _ => ?_) (fun h0 => ?_)
  · refine v_goto h 646 1284 dL_law_646 (by decide) ?_
    exact V.weakT (nx d' r' t' n' g' o5) (And.intro rfl (And.intro rfl (And.intro rfl (And.intro rfl (And.intro rfl trivial)))))
  · refine v_aload_n (i := 3) h 634 635 dL_law_634 rfl rfl ld3 ?_
    refine v_iconst (v := nI 0) h 635 636 dL_law_635 rfl (by decide) ?_
    refine v_lald h 636 637 dL_law_636 rfl sW_o (vp_in_nI (n := 0) (by omega) (by decide)) ?_
    rw [nI_clamp (by omega), o4 h0]
    refine v_iload (i := 6) h 637 639 dL_law_637 rfl ld6 ?_
    refine v_i2l h 639 640 dL_law_639 rfl rfl ?_
    refine v_lcmp0 h 640 641 dL_law_640 rfl ?_
    refine v_if_eq h 641 644 646 dL_law_641 rfl (by decide) (fun _ => ?_) (fun hh => absurd rfl hh)
    refine v_goto h 646 1284 dL_law_646 (by decide) ?_
    exact V.weakT (nx d' r' t' n' g' o5) (And.intro rfl (And.intro rfl (And.intro rfl (And.intro rfl (And.intro rfl trivial)))))
set_option maxRecDepth 100000 in
set_option maxHeartbeats 4000000 in
theorem b_team {E : EE} {Γ : Cx} {b D N i k n : Nat} {xs : Nat → Int32} {w0 : Nat → Option va_E} (h : OkB E Γ mLaw RL) (hZ : ZG E Γ) (hX : XG E Γ b N xs) (hE : E.1.stackTraces = false) (hN : N < 2 ^ 31) (hi : i + 5 ≤ N) (hk : k + 1 ≤ 601024 ∧ n + 6 ≤ 7293034) (nx : GoOn E Γ b D i (k + 1) (n + 6) 1284 w0) : GoOn E Γ b D i k n 649 w0 := by
  intro d r t nh g hR
  obtain ⟨c, x, g', d', r', t', o1, o2, o3, o4, o5⟩ := op_team (D := D) (n := nh) (g := g) (w0 := w0) hE hR (xs (i + 1)) (xs (i + 2))
  unfold lLo
  refine v_aload_n (i := 1) h 649 650 dL_law_649 rfl rfl ld1 ?_
  refine v_aload_n (i := 0) h 650 651 dL_law_650 rfl rfl ld0 ?_
  refine v_iload (i := 4) h 651 653 dL_law_651 rfl ld4 ?_
  refine v_iconst (v := nI 1) h 653 654 dL_law_653 rfl (by decide) ?_
  refine v_iadd h 654 655 dL_law_654 rfl ?_
  rw [nI_add]
  refine v_sld h hX 655 656 (i := i + 1) (by omega) hN dL_law_655 rfl ?_
  refine v_aload_n (i := 0) h 656 657 dL_law_656 rfl rfl ld0 ?_
  refine v_iload (i := 4) h 657 659 dL_law_657 rfl ld4 ?_
  refine v_iconst (v := nI 2) h 659 660 dL_law_659 rfl (by decide) ?_
  refine v_iadd h 660 661 dL_law_660 rfl ?_
  rw [nI_add]
  refine v_sld h hX 661 662 (i := i + 2) (by omega) hN dL_law_661 rfl ?_
  refine v_aload_n (i := 3) h 662 663 dL_law_662 rfl rfl ld3 ?_
  refine v_callS1h h hZ 663 666 dL_law_663 rfl cb_L_team cs_L_team lk_L_104 (rok (by decide) (by decide)) ⟨hk.1, hk.2⟩ o1 rfl rfl (Nat.le_of_ble_eq_true rfl) (fun n' hn' => ?_)
  refine V.world (w' := sW E D d' r t n' g' w0) rfl ?_
  refine v_istore (i := 5) h 666 668 dL_law_666 rfl (by decide) (so5 rfl) ?_
  refine v_aload_n (i := 2) h 668 669 dL_law_668 rfl rfl ld2 ?_
  refine v_aload_n (i := 0) h 669 670 dL_law_669 rfl rfl ld0 ?_
  refine v_iload (i := 4) h 670 672 dL_law_670 rfl ld4 ?_
  refine v_iconst (v := nI 1) h 672 673 dL_law_672 rfl (by decide) ?_
  refine v_iadd h 673 674 dL_law_673 rfl ?_
  rw [nI_add]
  refine v_sld h hX 674 675 (i := i + 1) (by omega) hN dL_law_674 rfl ?_
  refine v_aload_n (i := 0) h 675 676 dL_law_675 rfl rfl ld0 ?_
  refine v_iload (i := 4) h 676 678 dL_law_676 rfl ld4 ?_
  refine v_iconst (v := nI 2) h 678 679 dL_law_678 rfl (by decide) ?_
  refine v_iadd h 679 680 dL_law_679 rfl ?_
  rw [nI_add]
  refine v_sld h hX 680 681 (i := i + 2) (by omega) hN dL_law_680 rfl ?_
  refine v_callV1 h 681 684 dL_law_681 rfl cb_X4_team cv_X4_team sW_m lk_L_106 (rok (by decide) (by decide)) ⟨rfl, rfl⟩ ⟨hk.1, hk.2⟩ (o2 n') rfl rfl (Nat.le_of_ble_eq_true rfl) ?_
  refine v_istore (i := 6) h 684 686 dL_law_684 rfl (by decide) (so6 rfl) ?_
  refine v_aload_n (i := 2) h 686 687 dL_law_686 rfl rfl ld2 ?_
  refine v_callV1 h 687 690 dL_law_687 rfl cb_X4_thrown cv_X4_thrown sW_m lk_L_77 (rok (by decide) (by decide)) ⟨rfl, rfl⟩ ⟨hk.1, hk.2⟩ thr_s rfl rfl (Nat.le_of_ble_eq_true rfl) ?_
  rw [o3]
  refine v_iload (i := 5) h 690 692 dL_law_690 rfl ld5 ?_
  refine v_icmp_eq h 692 695 697 dL_law_692 rfl (by decide) (fun _ => ?_) (fun hh => absurd rfl hh)
  refine v_iload (i := 5) h 697 699 dL_law_697 rfl ld5 ?_
  refine v_if_ne h 699 702 714 dL_law_699 rfl (by decide) (fun _ => ?_) (fun h0 => ?_)
  · refine v_goto h 714 1284 dL_law_714 (by decide) ?_
    exact V.weakT (nx d' r' t' n' g' o5) (And.intro rfl (And.intro rfl (And.intro rfl (And.intro rfl (And.intro rfl trivial)))))
  · refine v_aload_n (i := 3) h 702 703 dL_law_702 rfl rfl ld3 ?_
    refine v_iconst (v := nI 0) h 703 704 dL_law_703 rfl (by decide) ?_
    refine v_lald h 704 705 dL_law_704 rfl sW_o (vp_in_nI (n := 0) (by omega) (by decide)) ?_
    rw [nI_clamp (by omega), o4 h0]
    refine v_iload (i := 6) h 705 707 dL_law_705 rfl ld6 ?_
    refine v_i2l h 707 708 dL_law_707 rfl rfl ?_
    refine v_lcmp0 h 708 709 dL_law_708 rfl ?_
    refine v_if_eq h 709 712 714 dL_law_709 rfl (by decide) (fun _ => ?_) (fun hh => absurd rfl hh)
    refine v_goto h 714 1284 dL_law_714 (by decide) ?_
    exact V.weakT (nx d' r' t' n' g' o5) (And.intro rfl (And.intro rfl (And.intro rfl (And.intro rfl (And.intro rfl trivial)))))
set_option maxRecDepth 100000 in
set_option maxHeartbeats 4000000 in
theorem b_value {E : EE} {Γ : Cx} {b D N i k n : Nat} {xs : Nat → Int32} {w0 : Nat → Option va_E} (h : OkB E Γ mLaw RL) (hZ : ZG E Γ) (hX : XG E Γ b N xs) (hE : E.1.stackTraces = false) (hN : N < 2 ^ 31) (hi : i + 5 ≤ N) (hk : k + 1 ≤ 601024 ∧ n + 6 ≤ 7293034) (nx : GoOn E Γ b D i (k + 1) (n + 6) 1284 w0) : GoOn E Γ b D i k n 717 w0 := by
  intro d r t nh g hR
  obtain ⟨c, x, g', d', r', t', o1, o2, o3, o4, o5⟩ := op_value (D := D) (n := nh) (g := g) (w0 := w0) hE hR (xs (i + 1))
  unfold lLo
  refine v_aload_n (i := 1) h 717 718 dL_law_717 rfl rfl ld1 ?_
  refine v_aload_n (i := 0) h 718 719 dL_law_718 rfl rfl ld0 ?_
  refine v_iload (i := 4) h 719 721 dL_law_719 rfl ld4 ?_
  refine v_iconst (v := nI 1) h 721 722 dL_law_721 rfl (by decide) ?_
  refine v_iadd h 722 723 dL_law_722 rfl ?_
  rw [nI_add]
  refine v_sld h hX 723 724 (i := i + 1) (by omega) hN dL_law_723 rfl ?_
  refine v_aload_n (i := 3) h 724 725 dL_law_724 rfl rfl ld3 ?_
  refine v_callS1h h hZ 725 728 dL_law_725 rfl cb_L_value cs_L_value lk_L_107 (rok (by decide) (by decide)) ⟨hk.1, hk.2⟩ o1 rfl rfl (Nat.le_of_ble_eq_true rfl) (fun n' hn' => ?_)
  refine V.world (w' := sW E D d' r t n' g' w0) rfl ?_
  refine v_istore (i := 5) h 728 730 dL_law_728 rfl (by decide) (so5 rfl) ?_
  refine v_aload_n (i := 2) h 730 731 dL_law_730 rfl rfl ld2 ?_
  refine v_aload_n (i := 0) h 731 732 dL_law_731 rfl rfl ld0 ?_
  refine v_iload (i := 4) h 732 734 dL_law_732 rfl ld4 ?_
  refine v_iconst (v := nI 1) h 734 735 dL_law_734 rfl (by decide) ?_
  refine v_iadd h 735 736 dL_law_735 rfl ?_
  rw [nI_add]
  refine v_sld h hX 736 737 (i := i + 1) (by omega) hN dL_law_736 rfl ?_
  refine v_callV1 h 737 740 dL_law_737 rfl cb_X4_value cv_X4_value sW_m lk_L_109 (rok (by decide) (by decide)) ⟨rfl, rfl⟩ ⟨hk.1, hk.2⟩ (o2 n') rfl rfl (Nat.le_of_ble_eq_true rfl) ?_
  refine v_istore (i := 6) h 740 742 dL_law_740 rfl (by decide) (so6 rfl) ?_
  refine v_aload_n (i := 2) h 742 743 dL_law_742 rfl rfl ld2 ?_
  refine v_callV1 h 743 746 dL_law_743 rfl cb_X4_thrown cv_X4_thrown sW_m lk_L_77 (rok (by decide) (by decide)) ⟨rfl, rfl⟩ ⟨hk.1, hk.2⟩ thr_s rfl rfl (Nat.le_of_ble_eq_true rfl) ?_
  rw [o3]
  refine v_iload (i := 5) h 746 748 dL_law_746 rfl ld5 ?_
  refine v_icmp_eq h 748 751 753 dL_law_748 rfl (by decide) (fun _ => ?_) (fun hh => absurd rfl hh)
  refine v_iload (i := 5) h 753 755 dL_law_753 rfl ld5 ?_
  refine v_if_ne h 755 758 770 dL_law_755 rfl (by decide) (fun _ => ?_) (fun h0 => ?_)
  · refine v_goto h 770 1284 dL_law_770 (by decide) ?_
    exact V.weakT (nx d' r' t' n' g' o5) (And.intro rfl (And.intro rfl (And.intro rfl (And.intro rfl (And.intro rfl trivial)))))
  · refine v_aload_n (i := 3) h 758 759 dL_law_758 rfl rfl ld3 ?_
    refine v_iconst (v := nI 0) h 759 760 dL_law_759 rfl (by decide) ?_
    refine v_lald h 760 761 dL_law_760 rfl sW_o (vp_in_nI (n := 0) (by omega) (by decide)) ?_
    rw [nI_clamp (by omega), o4 h0]
    refine v_iload (i := 6) h 761 763 dL_law_761 rfl ld6 ?_
    refine v_i2l h 763 764 dL_law_763 rfl rfl ?_
    refine v_lcmp0 h 764 765 dL_law_764 rfl ?_
    refine v_if_eq h 765 768 770 dL_law_765 rfl (by decide) (fun _ => ?_) (fun hh => absurd rfl hh)
    refine v_goto h 770 1284 dL_law_770 (by decide) ?_
    exact V.weakT (nx d' r' t' n' g' o5) (And.intro rfl (And.intro rfl (And.intro rfl (And.intro rfl (And.intro rfl trivial)))))
set_option maxRecDepth 100000 in
set_option maxHeartbeats 4000000 in
theorem b_way {E : EE} {Γ : Cx} {b D N i k n : Nat} {xs : Nat → Int32} {w0 : Nat → Option va_E} (h : OkB E Γ mLaw RL) (hZ : ZG E Γ) (hX : XG E Γ b N xs) (hE : E.1.stackTraces = false) (hN : N < 2 ^ 31) (hi : i + 5 ≤ N) (hk : k + 1 ≤ 601024 ∧ n + 6 ≤ 7293034) (nx : GoOn E Γ b D i (k + 1) (n + 6) 1284 w0) : GoOn E Γ b D i k n 773 w0 := by
  intro d r t nh g hR
  obtain ⟨c, x, g', d', r', t', o1, o2, o3, o4, o5⟩ := op_way (D := D) (n := nh) (g := g) (w0 := w0) hE hR (xs (i + 1)) (xs (i + 2))
  unfold lLo
  refine v_aload_n (i := 1) h 773 774 dL_law_773 rfl rfl ld1 ?_
  refine v_aload_n (i := 0) h 774 775 dL_law_774 rfl rfl ld0 ?_
  refine v_iload (i := 4) h 775 777 dL_law_775 rfl ld4 ?_
  refine v_iconst (v := nI 1) h 777 778 dL_law_777 rfl (by decide) ?_
  refine v_iadd h 778 779 dL_law_778 rfl ?_
  rw [nI_add]
  refine v_sld h hX 779 780 (i := i + 1) (by omega) hN dL_law_779 rfl ?_
  refine v_aload_n (i := 0) h 780 781 dL_law_780 rfl rfl ld0 ?_
  refine v_iload (i := 4) h 781 783 dL_law_781 rfl ld4 ?_
  refine v_iconst (v := nI 2) h 783 784 dL_law_783 rfl (by decide) ?_
  refine v_iadd h 784 785 dL_law_784 rfl ?_
  rw [nI_add]
  refine v_sld h hX 785 786 (i := i + 2) (by omega) hN dL_law_785 rfl ?_
  refine v_aload_n (i := 3) h 786 787 dL_law_786 rfl rfl ld3 ?_
  refine v_callS1h h hZ 787 790 dL_law_787 rfl cb_L_way cs_L_way lk_L_110 (rok (by decide) (by decide)) ⟨hk.1, hk.2⟩ o1 rfl rfl (Nat.le_of_ble_eq_true rfl) (fun n' hn' => ?_)
  refine V.world (w' := sW E D d' r t n' g' w0) rfl ?_
  refine v_istore (i := 5) h 790 792 dL_law_790 rfl (by decide) (so5 rfl) ?_
  refine v_aload_n (i := 2) h 792 793 dL_law_792 rfl rfl ld2 ?_
  refine v_aload_n (i := 0) h 793 794 dL_law_793 rfl rfl ld0 ?_
  refine v_iload (i := 4) h 794 796 dL_law_794 rfl ld4 ?_
  refine v_iconst (v := nI 1) h 796 797 dL_law_796 rfl (by decide) ?_
  refine v_iadd h 797 798 dL_law_797 rfl ?_
  rw [nI_add]
  refine v_sld h hX 798 799 (i := i + 1) (by omega) hN dL_law_798 rfl ?_
  refine v_aload_n (i := 0) h 799 800 dL_law_799 rfl rfl ld0 ?_
  refine v_iload (i := 4) h 800 802 dL_law_800 rfl ld4 ?_
  refine v_iconst (v := nI 2) h 802 803 dL_law_802 rfl (by decide) ?_
  refine v_iadd h 803 804 dL_law_803 rfl ?_
  rw [nI_add]
  refine v_sld h hX 804 805 (i := i + 2) (by omega) hN dL_law_804 rfl ?_
  refine v_callV1 h 805 808 dL_law_805 rfl cb_X4_way cv_X4_way sW_m lk_L_112 (rok (by decide) (by decide)) ⟨rfl, rfl⟩ ⟨hk.1, hk.2⟩ (o2 n') rfl rfl (Nat.le_of_ble_eq_true rfl) ?_
  refine v_istore (i := 6) h 808 810 dL_law_808 rfl (by decide) (so6 rfl) ?_
  refine v_aload_n (i := 2) h 810 811 dL_law_810 rfl rfl ld2 ?_
  refine v_callV1 h 811 814 dL_law_811 rfl cb_X4_thrown cv_X4_thrown sW_m lk_L_77 (rok (by decide) (by decide)) ⟨rfl, rfl⟩ ⟨hk.1, hk.2⟩ thr_s rfl rfl (Nat.le_of_ble_eq_true rfl) ?_
  rw [o3]
  refine v_iload (i := 5) h 814 816 dL_law_814 rfl ld5 ?_
  refine v_icmp_eq h 816 819 821 dL_law_816 rfl (by decide) (fun _ => ?_) (fun hh => absurd rfl hh)
  refine v_iload (i := 5) h 821 823 dL_law_821 rfl ld5 ?_
  refine v_if_ne h 823 826 838 dL_law_823 rfl (by decide) (fun _ => ?_) (fun h0 => ?_)
  · refine v_goto h 838 1284 dL_law_838 (by decide) ?_
    exact V.weakT (nx d' r' t' n' g' o5) (And.intro rfl (And.intro rfl (And.intro rfl (And.intro rfl (And.intro rfl trivial)))))
  · refine v_aload_n (i := 3) h 826 827 dL_law_826 rfl rfl ld3 ?_
    refine v_iconst (v := nI 0) h 827 828 dL_law_827 rfl (by decide) ?_
    refine v_lald h 828 829 dL_law_828 rfl sW_o (vp_in_nI (n := 0) (by omega) (by decide)) ?_
    rw [nI_clamp (by omega), o4 h0]
    refine v_iload (i := 6) h 829 831 dL_law_829 rfl ld6 ?_
    refine v_i2l h 831 832 dL_law_831 rfl rfl ?_
    refine v_lcmp0 h 832 833 dL_law_832 rfl ?_
    refine v_if_eq h 833 836 838 dL_law_833 rfl (by decide) (fun _ => ?_) (fun hh => absurd rfl hh)
    refine v_goto h 838 1284 dL_law_838 (by decide) ?_
    exact V.weakT (nx d' r' t' n' g' o5) (And.intro rfl (And.intro rfl (And.intro rfl (And.intro rfl (And.intro rfl trivial)))))
set_option maxRecDepth 100000 in
set_option maxHeartbeats 4000000 in
theorem b_work {E : EE} {Γ : Cx} {b D N i k n : Nat} {xs : Nat → Int32} {w0 : Nat → Option va_E} (h : OkB E Γ mLaw RL) (hZ : ZG E Γ) (hX : XG E Γ b N xs) (hE : E.1.stackTraces = false) (hN : N < 2 ^ 31) (hi : i + 5 ≤ N) (hk : k + 1 ≤ 601024 ∧ n + 6 ≤ 7293034) (nx : GoOn E Γ b D i (k + 1) (n + 6) 1284 w0) : GoOn E Γ b D i k n 841 w0 := by
  intro d r t nh g hR
  obtain ⟨c, x, g', d', r', t', o1, o2, o3, o4, o5⟩ := op_work (D := D) (n := nh) (g := g) (w0 := w0) hE hR (xs (i + 1)) (xs (i + 2))
  unfold lLo
  refine v_aload_n (i := 1) h 841 842 dL_law_841 rfl rfl ld1 ?_
  refine v_aload_n (i := 0) h 842 843 dL_law_842 rfl rfl ld0 ?_
  refine v_iload (i := 4) h 843 845 dL_law_843 rfl ld4 ?_
  refine v_iconst (v := nI 1) h 845 846 dL_law_845 rfl (by decide) ?_
  refine v_iadd h 846 847 dL_law_846 rfl ?_
  rw [nI_add]
  refine v_sld h hX 847 848 (i := i + 1) (by omega) hN dL_law_847 rfl ?_
  refine v_aload_n (i := 0) h 848 849 dL_law_848 rfl rfl ld0 ?_
  refine v_iload (i := 4) h 849 851 dL_law_849 rfl ld4 ?_
  refine v_iconst (v := nI 2) h 851 852 dL_law_851 rfl (by decide) ?_
  refine v_iadd h 852 853 dL_law_852 rfl ?_
  rw [nI_add]
  refine v_sld h hX 853 854 (i := i + 2) (by omega) hN dL_law_853 rfl ?_
  refine v_aload_n (i := 3) h 854 855 dL_law_854 rfl rfl ld3 ?_
  refine v_callS1h h hZ 855 858 dL_law_855 rfl cb_L_work cs_L_work lk_L_113 (rok (by decide) (by decide)) ⟨hk.1, hk.2⟩ o1 rfl rfl (Nat.le_of_ble_eq_true rfl) (fun n' hn' => ?_)
  refine V.world (w' := sW E D d' r t n' g' w0) rfl ?_
  refine v_istore (i := 5) h 858 860 dL_law_858 rfl (by decide) (so5 rfl) ?_
  refine v_aload_n (i := 2) h 860 861 dL_law_860 rfl rfl ld2 ?_
  refine v_aload_n (i := 0) h 861 862 dL_law_861 rfl rfl ld0 ?_
  refine v_iload (i := 4) h 862 864 dL_law_862 rfl ld4 ?_
  refine v_iconst (v := nI 1) h 864 865 dL_law_864 rfl (by decide) ?_
  refine v_iadd h 865 866 dL_law_865 rfl ?_
  rw [nI_add]
  refine v_sld h hX 866 867 (i := i + 1) (by omega) hN dL_law_866 rfl ?_
  refine v_aload_n (i := 0) h 867 868 dL_law_867 rfl rfl ld0 ?_
  refine v_iload (i := 4) h 868 870 dL_law_868 rfl ld4 ?_
  refine v_iconst (v := nI 2) h 870 871 dL_law_870 rfl (by decide) ?_
  refine v_iadd h 871 872 dL_law_871 rfl ?_
  rw [nI_add]
  refine v_sld h hX 872 873 (i := i + 2) (by omega) hN dL_law_872 rfl ?_
  refine v_callV1 h 873 876 dL_law_873 rfl cb_X4_work cv_X4_work sW_m lk_L_115 (rok (by decide) (by decide)) ⟨rfl, rfl⟩ ⟨hk.1, hk.2⟩ (o2 n') rfl rfl (Nat.le_of_ble_eq_true rfl) ?_
  refine v_istore (i := 6) h 876 878 dL_law_876 rfl (by decide) (so6 rfl) ?_
  refine v_aload_n (i := 2) h 878 879 dL_law_878 rfl rfl ld2 ?_
  refine v_callV1 h 879 882 dL_law_879 rfl cb_X4_thrown cv_X4_thrown sW_m lk_L_77 (rok (by decide) (by decide)) ⟨rfl, rfl⟩ ⟨hk.1, hk.2⟩ thr_s rfl rfl (Nat.le_of_ble_eq_true rfl) ?_
  rw [o3]
  refine v_iload (i := 5) h 882 884 dL_law_882 rfl ld5 ?_
  refine v_icmp_eq h 884 887 889 dL_law_884 rfl (by decide) (fun _ => ?_) (fun hh => absurd rfl hh)
  refine v_iload (i := 5) h 889 891 dL_law_889 rfl ld5 ?_
  refine v_if_ne h 891 894 906 dL_law_891 rfl (by decide) (fun _ => ?_) (fun h0 => ?_)
  · refine v_goto h 906 1284 dL_law_906 (by decide) ?_
    exact V.weakT (nx d' r' t' n' g' o5) (And.intro rfl (And.intro rfl (And.intro rfl (And.intro rfl (And.intro rfl trivial)))))
  · refine v_aload_n (i := 3) h 894 895 dL_law_894 rfl rfl ld3 ?_
    refine v_iconst (v := nI 0) h 895 896 dL_law_895 rfl (by decide) ?_
    refine v_lald h 896 897 dL_law_896 rfl sW_o (vp_in_nI (n := 0) (by omega) (by decide)) ?_
    rw [nI_clamp (by omega), o4 h0]
    refine v_iload (i := 6) h 897 899 dL_law_897 rfl ld6 ?_
    refine v_i2l h 899 900 dL_law_899 rfl rfl ?_
    refine v_lcmp0 h 900 901 dL_law_900 rfl ?_
    refine v_if_eq h 901 904 906 dL_law_901 rfl (by decide) (fun _ => ?_) (fun hh => absurd rfl hh)
    refine v_goto h 906 1284 dL_law_906 (by decide) ?_
    exact V.weakT (nx d' r' t' n' g' o5) (And.intro rfl (And.intro rfl (And.intro rfl (And.intro rfl (And.intro rfl trivial)))))
set_option maxRecDepth 100000 in
set_option maxHeartbeats 4000000 in
theorem b_journal {E : EE} {Γ : Cx} {b D N i k n : Nat} {xs : Nat → Int32} {w0 : Nat → Option va_E} (h : OkB E Γ mLaw RL) (hZ : ZG E Γ) (hX : XG E Γ b N xs) (hE : E.1.stackTraces = false) (hN : N < 2 ^ 31) (hi : i + 5 ≤ N) (hk : k + 1 ≤ 601024 ∧ n + 6 ≤ 7293034) (nx : GoOn E Γ b D i (k + 1) (n + 6) 1284 w0) : GoOn E Γ b D i k n 909 w0 := by
  intro d r t nh g hR
  obtain ⟨c, x, g', d', r', t', o1, o2, o3, o4, o5⟩ := op_journal (D := D) (n := nh) (g := g) (w0 := w0) hE hR (xs (i + 1))
  unfold lLo
  refine v_aload_n (i := 1) h 909 910 dL_law_909 rfl rfl ld1 ?_
  refine v_aload_n (i := 0) h 910 911 dL_law_910 rfl rfl ld0 ?_
  refine v_iload (i := 4) h 911 913 dL_law_911 rfl ld4 ?_
  refine v_iconst (v := nI 1) h 913 914 dL_law_913 rfl (by decide) ?_
  refine v_iadd h 914 915 dL_law_914 rfl ?_
  rw [nI_add]
  refine v_sld h hX 915 916 (i := i + 1) (by omega) hN dL_law_915 rfl ?_
  refine v_aload_n (i := 3) h 916 917 dL_law_916 rfl rfl ld3 ?_
  refine v_callS1h h hZ 917 920 dL_law_917 rfl cb_L_journal cs_L_journal lk_L_116 (rok (by decide) (by decide)) ⟨hk.1, hk.2⟩ o1 rfl rfl (Nat.le_of_ble_eq_true rfl) (fun n' hn' => ?_)
  refine V.world (w' := sW E D d' r t n' g' w0) rfl ?_
  refine v_istore (i := 5) h 920 922 dL_law_920 rfl (by decide) (so5 rfl) ?_
  refine v_aload_n (i := 2) h 922 923 dL_law_922 rfl rfl ld2 ?_
  refine v_aload_n (i := 0) h 923 924 dL_law_923 rfl rfl ld0 ?_
  refine v_iload (i := 4) h 924 926 dL_law_924 rfl ld4 ?_
  refine v_iconst (v := nI 1) h 926 927 dL_law_926 rfl (by decide) ?_
  refine v_iadd h 927 928 dL_law_927 rfl ?_
  rw [nI_add]
  refine v_sld h hX 928 929 (i := i + 1) (by omega) hN dL_law_928 rfl ?_
  refine v_callV1 h 929 932 dL_law_929 rfl cb_X4_journal cv_X4_journal sW_m lk_L_118 (rok (by decide) (by decide)) ⟨rfl, rfl⟩ ⟨hk.1, hk.2⟩ (o2 n') rfl rfl (Nat.le_of_ble_eq_true rfl) ?_
  refine v_istore (i := 6) h 932 934 dL_law_932 rfl (by decide) (so6 rfl) ?_
  refine v_aload_n (i := 2) h 934 935 dL_law_934 rfl rfl ld2 ?_
  refine v_callV1 h 935 938 dL_law_935 rfl cb_X4_thrown cv_X4_thrown sW_m lk_L_77 (rok (by decide) (by decide)) ⟨rfl, rfl⟩ ⟨hk.1, hk.2⟩ thr_s rfl rfl (Nat.le_of_ble_eq_true rfl) ?_
  rw [o3]
  refine v_iload (i := 5) h 938 940 dL_law_938 rfl ld5 ?_
  refine v_icmp_eq h 940 943 945 dL_law_940 rfl (by decide) (fun _ => ?_) (fun hh => absurd rfl hh)
  refine v_iload (i := 5) h 945 947 dL_law_945 rfl ld5 ?_
  refine v_if_ne h 947 950 962 dL_law_947 rfl (by decide) (fun _ => ?_) (fun h0 => ?_)
  · refine v_goto h 962 1284 dL_law_962 (by decide) ?_
    exact V.weakT (nx d' r' t' n' g' o5) (And.intro rfl (And.intro rfl (And.intro rfl (And.intro rfl (And.intro rfl trivial)))))
  · refine v_aload_n (i := 3) h 950 951 dL_law_950 rfl rfl ld3 ?_
    refine v_iconst (v := nI 0) h 951 952 dL_law_951 rfl (by decide) ?_
    refine v_lald h 952 953 dL_law_952 rfl sW_o (vp_in_nI (n := 0) (by omega) (by decide)) ?_
    rw [nI_clamp (by omega), o4 h0]
    refine v_iload (i := 6) h 953 955 dL_law_953 rfl ld6 ?_
    refine v_i2l h 955 956 dL_law_955 rfl rfl ?_
    refine v_lcmp0 h 956 957 dL_law_956 rfl ?_
    refine v_if_eq h 957 960 962 dL_law_957 rfl (by decide) (fun _ => ?_) (fun hh => absurd rfl hh)
    refine v_goto h 962 1284 dL_law_962 (by decide) ?_
    exact V.weakT (nx d' r' t' n' g' o5) (And.intro rfl (And.intro rfl (And.intro rfl (And.intro rfl (And.intro rfl trivial)))))
set_option maxRecDepth 100000 in
set_option maxHeartbeats 4000000 in
theorem b_minuteOf {E : EE} {Γ : Cx} {b D N i k n : Nat} {xs : Nat → Int32} {w0 : Nat → Option va_E} (h : OkB E Γ mLaw RL) (hZ : ZG E Γ) (hX : XG E Γ b N xs) (hE : E.1.stackTraces = false) (hN : N < 2 ^ 31) (hi : i + 5 ≤ N) (hk : k + 1 ≤ 601024 ∧ n + 6 ≤ 7293034) (nx : GoOn E Γ b D i (k + 1) (n + 6) 1284 w0) : GoOn E Γ b D i k n 965 w0 := by
  intro d r t nh g hR
  obtain ⟨c, x, g', d', r', t', o1, o2, o3, o4, o5⟩ := op_minuteOf (D := D) (n := nh) (g := g) (w0 := w0) hE hR (xs (i + 1))
  unfold lLo
  refine v_aload_n (i := 1) h 965 966 dL_law_965 rfl rfl ld1 ?_
  refine v_aload_n (i := 0) h 966 967 dL_law_966 rfl rfl ld0 ?_
  refine v_iload (i := 4) h 967 969 dL_law_967 rfl ld4 ?_
  refine v_iconst (v := nI 1) h 969 970 dL_law_969 rfl (by decide) ?_
  refine v_iadd h 970 971 dL_law_970 rfl ?_
  rw [nI_add]
  refine v_sld h hX 971 972 (i := i + 1) (by omega) hN dL_law_971 rfl ?_
  refine v_aload_n (i := 3) h 972 973 dL_law_972 rfl rfl ld3 ?_
  refine v_callS1h h hZ 973 976 dL_law_973 rfl cb_L_minuteOf cs_L_minuteOf lk_L_119 (rok (by decide) (by decide)) ⟨hk.1, hk.2⟩ o1 rfl rfl (Nat.le_of_ble_eq_true rfl) (fun n' hn' => ?_)
  refine V.world (w' := sW E D d' r t n' g' w0) rfl ?_
  refine v_istore (i := 5) h 976 978 dL_law_976 rfl (by decide) (so5 rfl) ?_
  refine v_aload_n (i := 2) h 978 979 dL_law_978 rfl rfl ld2 ?_
  refine v_aload_n (i := 0) h 979 980 dL_law_979 rfl rfl ld0 ?_
  refine v_iload (i := 4) h 980 982 dL_law_980 rfl ld4 ?_
  refine v_iconst (v := nI 1) h 982 983 dL_law_982 rfl (by decide) ?_
  refine v_iadd h 983 984 dL_law_983 rfl ?_
  rw [nI_add]
  refine v_sld h hX 984 985 (i := i + 1) (by omega) hN dL_law_984 rfl ?_
  refine v_callV1 h 985 988 dL_law_985 rfl cb_X4_minuteOf cv_X4_minuteOf sW_m lk_L_121 (rok (by decide) (by decide)) ⟨rfl, rfl⟩ ⟨hk.1, hk.2⟩ (o2 n') rfl rfl (Nat.le_of_ble_eq_true rfl) ?_
  refine v_istore (i := 6) h 988 990 dL_law_988 rfl (by decide) (so6 rfl) ?_
  refine v_aload_n (i := 2) h 990 991 dL_law_990 rfl rfl ld2 ?_
  refine v_callV1 h 991 994 dL_law_991 rfl cb_X4_thrown cv_X4_thrown sW_m lk_L_77 (rok (by decide) (by decide)) ⟨rfl, rfl⟩ ⟨hk.1, hk.2⟩ thr_s rfl rfl (Nat.le_of_ble_eq_true rfl) ?_
  rw [o3]
  refine v_iload (i := 5) h 994 996 dL_law_994 rfl ld5 ?_
  refine v_icmp_eq h 996 999 1001 dL_law_996 rfl (by decide) (fun _ => ?_) (fun hh => absurd rfl hh)
  refine v_iload (i := 5) h 1001 1003 dL_law_1001 rfl ld5 ?_
  refine v_if_ne h 1003 1006 1018 dL_law_1003 rfl (by decide) (fun _ => ?_) (fun h0 => ?_)
  · refine v_goto h 1018 1284 dL_law_1018 (by decide) ?_
    exact V.weakT (nx d' r' t' n' g' o5) (And.intro rfl (And.intro rfl (And.intro rfl (And.intro rfl (And.intro rfl trivial)))))
  · refine v_aload_n (i := 3) h 1006 1007 dL_law_1006 rfl rfl ld3 ?_
    refine v_iconst (v := nI 0) h 1007 1008 dL_law_1007 rfl (by decide) ?_
    refine v_lald h 1008 1009 dL_law_1008 rfl sW_o (vp_in_nI (n := 0) (by omega) (by decide)) ?_
    rw [nI_clamp (by omega), o4 h0]
    refine v_iload (i := 6) h 1009 1011 dL_law_1009 rfl ld6 ?_
    refine v_i2l h 1011 1012 dL_law_1011 rfl rfl ?_
    refine v_lcmp0 h 1012 1013 dL_law_1012 rfl ?_
    refine v_if_eq h 1013 1016 1018 dL_law_1013 rfl (by decide) (fun _ => ?_) (fun hh => absurd rfl hh)
    refine v_goto h 1018 1284 dL_law_1018 (by decide) ?_
    exact V.weakT (nx d' r' t' n' g' o5) (And.intro rfl (And.intro rfl (And.intro rfl (And.intro rfl (And.intro rfl trivial)))))
set_option maxRecDepth 100000 in
set_option maxHeartbeats 4000000 in
theorem b_minutesToAll {E : EE} {Γ : Cx} {b D N i k n : Nat} {xs : Nat → Int32} {w0 : Nat → Option va_E} (h : OkB E Γ mLaw RL) (hZ : ZG E Γ) (hX : XG E Γ b N xs) (hE : E.1.stackTraces = false) (hN : N < 2 ^ 31) (hi : i + 5 ≤ N) (hk : k + 1 ≤ 601024 ∧ n + 6 ≤ 7293034) (nx : GoOn E Γ b D i (k + 1) (n + 6) 1284 w0) : GoOn E Γ b D i k n 1021 w0 := by
  intro d r t nh g hR
  obtain ⟨v, d', r', t', o1, o2, o3⟩ := op_minutesToAll (E := E) (D := D) (n := nh) (g := g) (w0 := w0) hR
  unfold lLo
  refine v_aload_n (i := 1) h 1021 1022 dL_law_1021 rfl rfl ld1 ?_
  refine v_callV1 h 1022 1025 dL_law_1022 rfl cb_X3_minutesToAll cv_X3_minutesToAll sW_d lk_L_122 (rok (by decide) (by decide)) ⟨rfl, rfl⟩ ⟨by have := hk.1; show k ≤ 601024; omega, by have := hk.2; show n ≤ 7293034; omega⟩ o1 rfl rfl (Nat.le_of_ble_eq_true rfl) ?_
  refine v_aload_n (i := 2) h 1025 1026 dL_law_1025 rfl rfl ld2 ?_
  refine v_callV1 h 1026 1029 dL_law_1026 rfl cb_X4_minutesToAll cv_X4_minutesToAll sW_m lk_L_125 (rok (by decide) (by decide)) ⟨rfl, rfl⟩ ⟨by have := hk.1; show k ≤ 601024; omega, by have := hk.2; show n ≤ 7293034; omega⟩ o2 rfl rfl (Nat.le_of_ble_eq_true rfl) ?_
  exact v_icmp_eq h 1029 1032 1284 dL_law_1029 rfl (by decide) (fun _ => V.widen (k' := k + 1) (n' := n + 6) (by omega) (by omega) (V.weakT (nx d' r' t' nh g o3) (And.intro rfl (And.intro rfl (And.intro rfl (And.intro rfl (And.intro rfl trivial))))))) (fun hh => absurd rfl hh)
set_option maxRecDepth 100000 in
set_option maxHeartbeats 4000000 in
theorem b_bestSpan {E : EE} {Γ : Cx} {b D N i k n : Nat} {xs : Nat → Int32} {w0 : Nat → Option va_E} (h : OkB E Γ mLaw RL) (hZ : ZG E Γ) (hX : XG E Γ b N xs) (hE : E.1.stackTraces = false) (hN : N < 2 ^ 31) (hi : i + 5 ≤ N) (hk : k + 1 ≤ 601024 ∧ n + 6 ≤ 7293034) (nx : GoOn E Γ b D i (k + 1) (n + 6) 1284 w0) : GoOn E Γ b D i k n 1034 w0 := by
  intro d r t nh g hR
  obtain ⟨v, d', r', t', o1, o2, o3⟩ := op_bestSpan (E := E) (D := D) (n := nh) (g := g) (w0 := w0) hR
  unfold lLo
  refine v_aload_n (i := 1) h 1034 1035 dL_law_1034 rfl rfl ld1 ?_
  refine v_callV1 h 1035 1038 dL_law_1035 rfl cb_X3_bestSpan cv_X3_bestSpan sW_d lk_L_126 (rok (by decide) (by decide)) ⟨rfl, rfl⟩ ⟨by have := hk.1; show k ≤ 601024; omega, by have := hk.2; show n ≤ 7293034; omega⟩ o1 rfl rfl (Nat.le_of_ble_eq_true rfl) ?_
  refine v_aload_n (i := 2) h 1038 1039 dL_law_1038 rfl rfl ld2 ?_
  refine v_callV1 h 1039 1042 dL_law_1039 rfl cb_X4_bestSpan cv_X4_bestSpan sW_m lk_L_129 (rok (by decide) (by decide)) ⟨rfl, rfl⟩ ⟨by have := hk.1; show k ≤ 601024; omega, by have := hk.2; show n ≤ 7293034; omega⟩ o2 rfl rfl (Nat.le_of_ble_eq_true rfl) ?_
  exact v_icmp_eq h 1042 1045 1284 dL_law_1042 rfl (by decide) (fun _ => V.widen (k' := k + 1) (n' := n + 6) (by omega) (by omega) (V.weakT (nx d' r' t' nh g o3) (And.intro rfl (And.intro rfl (And.intro rfl (And.intro rfl (And.intro rfl trivial))))))) (fun hh => absurd rfl hh)
set_option maxRecDepth 100000 in
set_option maxHeartbeats 4000000 in
theorem b_chosen {E : EE} {Γ : Cx} {b D N i k n : Nat} {xs : Nat → Int32} {w0 : Nat → Option va_E} (h : OkB E Γ mLaw RL) (hZ : ZG E Γ) (hX : XG E Γ b N xs) (hE : E.1.stackTraces = false) (hN : N < 2 ^ 31) (hi : i + 5 ≤ N) (hk : k + 1 ≤ 601024 ∧ n + 6 ≤ 7293034) (nx : GoOn E Γ b D i (k + 1) (n + 6) 1284 w0) : GoOn E Γ b D i k n 1047 w0 := by
  intro d r t nh g hR
  obtain ⟨c, x, g', d', r', t', o1, o2, o3, o4, o5⟩ := op_chosen (D := D) (n := nh) (g := g) (w0 := w0) hE hR (xs (i + 1))
  unfold lLo
  refine v_aload_n (i := 1) h 1047 1048 dL_law_1047 rfl rfl ld1 ?_
  refine v_aload_n (i := 0) h 1048 1049 dL_law_1048 rfl rfl ld0 ?_
  refine v_iload (i := 4) h 1049 1051 dL_law_1049 rfl ld4 ?_
  refine v_iconst (v := nI 1) h 1051 1052 dL_law_1051 rfl (by decide) ?_
  refine v_iadd h 1052 1053 dL_law_1052 rfl ?_
  rw [nI_add]
  refine v_sld h hX 1053 1054 (i := i + 1) (by omega) hN dL_law_1053 rfl ?_
  refine v_aload_n (i := 3) h 1054 1055 dL_law_1054 rfl rfl ld3 ?_
  refine v_callS1h h hZ 1055 1058 dL_law_1055 rfl cb_L_chosen cs_L_chosen lk_L_130 (rok (by decide) (by decide)) ⟨hk.1, hk.2⟩ o1 rfl rfl (Nat.le_of_ble_eq_true rfl) (fun n' hn' => ?_)
  refine V.world (w' := sW E D d' r t n' g' w0) rfl ?_
  refine v_istore (i := 5) h 1058 1060 dL_law_1058 rfl (by decide) (so5 rfl) ?_
  refine v_aload_n (i := 2) h 1060 1061 dL_law_1060 rfl rfl ld2 ?_
  refine v_aload_n (i := 0) h 1061 1062 dL_law_1061 rfl rfl ld0 ?_
  refine v_iload (i := 4) h 1062 1064 dL_law_1062 rfl ld4 ?_
  refine v_iconst (v := nI 1) h 1064 1065 dL_law_1064 rfl (by decide) ?_
  refine v_iadd h 1065 1066 dL_law_1065 rfl ?_
  rw [nI_add]
  refine v_sld h hX 1066 1067 (i := i + 1) (by omega) hN dL_law_1066 rfl ?_
  refine v_callV1 h 1067 1070 dL_law_1067 rfl cb_X4_chosen cv_X4_chosen sW_m lk_L_132 (rok (by decide) (by decide)) ⟨rfl, rfl⟩ ⟨hk.1, hk.2⟩ (o2 n') rfl rfl (Nat.le_of_ble_eq_true rfl) ?_
  refine v_istore (i := 6) h 1070 1072 dL_law_1070 rfl (by decide) (so6 rfl) ?_
  refine v_aload_n (i := 2) h 1072 1073 dL_law_1072 rfl rfl ld2 ?_
  refine v_callV1 h 1073 1076 dL_law_1073 rfl cb_X4_thrown cv_X4_thrown sW_m lk_L_77 (rok (by decide) (by decide)) ⟨rfl, rfl⟩ ⟨hk.1, hk.2⟩ thr_s rfl rfl (Nat.le_of_ble_eq_true rfl) ?_
  rw [o3]
  refine v_iload (i := 5) h 1076 1078 dL_law_1076 rfl ld5 ?_
  refine v_icmp_eq h 1078 1081 1083 dL_law_1078 rfl (by decide) (fun _ => ?_) (fun hh => absurd rfl hh)
  refine v_iload (i := 5) h 1083 1085 dL_law_1083 rfl ld5 ?_
  refine v_if_ne h 1085 1088 1100 dL_law_1085 rfl (by decide) (fun _ => ?_) (fun h0 => ?_)
  · refine v_goto h 1100 1284 dL_law_1100 (by decide) ?_
    exact V.weakT (nx d' r' t' n' g' o5) (And.intro rfl (And.intro rfl (And.intro rfl (And.intro rfl (And.intro rfl trivial)))))
  · refine v_aload_n (i := 3) h 1088 1089 dL_law_1088 rfl rfl ld3 ?_
    refine v_iconst (v := nI 0) h 1089 1090 dL_law_1089 rfl (by decide) ?_
    refine v_lald h 1090 1091 dL_law_1090 rfl sW_o (vp_in_nI (n := 0) (by omega) (by decide)) ?_
    rw [nI_clamp (by omega), o4 h0]
    refine v_iload (i := 6) h 1091 1093 dL_law_1091 rfl ld6 ?_
    refine v_i2l h 1093 1094 dL_law_1093 rfl rfl ?_
    refine v_lcmp0 h 1094 1095 dL_law_1094 rfl ?_
    refine v_if_eq h 1095 1098 1100 dL_law_1095 rfl (by decide) (fun _ => ?_) (fun hh => absurd rfl hh)
    refine v_goto h 1100 1284 dL_law_1100 (by decide) ?_
    exact V.weakT (nx d' r' t' n' g' o5) (And.intro rfl (And.intro rfl (And.intro rfl (And.intro rfl (And.intro rfl trivial)))))
set_option maxRecDepth 100000 in
set_option maxHeartbeats 4000000 in
theorem b_meanCold {E : EE} {Γ : Cx} {b D N i k n : Nat} {xs : Nat → Int32} {w0 : Nat → Option va_E} (h : OkB E Γ mLaw RL) (hZ : ZG E Γ) (hX : XG E Γ b N xs) (hE : E.1.stackTraces = false) (hN : N < 2 ^ 31) (hi : i + 5 ≤ N) (hk : k + 1 ≤ 601024 ∧ n + 6 ≤ 7293034) (nx : GoOn E Γ b D i (k + 1) (n + 6) 1284 w0) : GoOn E Γ b D i k n 1103 w0 := by
  intro d r t nh g hR
  obtain ⟨v, d', r', t', o1, o2, o3⟩ := op_meanCold (E := E) (D := D) (n := nh) (g := g) (w0 := w0) hR
  unfold lLo
  refine v_aload_n (i := 1) h 1103 1104 dL_law_1103 rfl rfl ld1 ?_
  refine v_callV1 h 1104 1107 dL_law_1104 rfl cb_X3_meanCold cv_X3_meanCold sW_d lk_L_133 (rok (by decide) (by decide)) ⟨rfl, rfl⟩ ⟨by have := hk.1; show k ≤ 601024; omega, by have := hk.2; show n ≤ 7293034; omega⟩ o1 rfl rfl (Nat.le_of_ble_eq_true rfl) ?_
  refine v_dstore (i := 5) h 1107 1109 dL_law_1107 rfl (by decide) (sl5 rfl) ?_
  refine v_aload_n (i := 2) h 1109 1110 dL_law_1109 rfl rfl ld2 ?_
  refine v_callV1 h 1110 1113 dL_law_1110 rfl cb_X4_meanCold cv_X4_meanCold sW_m lk_L_137 (rok (by decide) (by decide)) ⟨rfl, rfl⟩ ⟨by have := hk.1; show k ≤ 601024; omega, by have := hk.2; show n ≤ 7293034; omega⟩ o2 rfl rfl (Nat.le_of_ble_eq_true rfl) ?_
  refine v_dstore (i := 7) h 1113 1115 dL_law_1113 rfl (by decide) (sl7 rfl) ?_
  refine v_dload (i := 5) h 1115 1117 dL_law_1115 rfl ld5 ?_
  refine v_dload (i := 7) h 1117 1119 dL_law_1117 rfl ld7 ?_
  refine v_dcmp h 1119 1120 dL_law_1119 rfl ?_
  have kend : ∀ L9, lsub (lLo b D i) L9 → V E Γ k n 1141 L9 [] (sW E D d' r' t' nh g w0) := fun L9 h9 => by
    refine v_goto h 1141 1284 dL_law_1141 (by decide) ?_
    exact V.widen (k' := k + 1) (n' := n + 6) (by omega) (by omega) (V.weakT (nx d' r' t' nh g o3) h9)
  refine v_if_eq h 1120 1123 1141 dL_law_1120 rfl (by decide) (fun _ => kend _ (And.intro rfl (And.intro rfl (And.intro rfl (And.intro rfl (And.intro rfl trivial)))))) (fun z => ?_)
  refine v_dload (i := 5) h 1123 1125 dL_law_1123 rfl ld5 ?_
  refine v_dload (i := 5) h 1125 1127 dL_law_1125 rfl ld5 ?_
  refine v_dcmp h 1127 1128 dL_law_1127 rfl ?_
  refine v_if_eq h 1128 1131 1139 dL_law_1128 rfl (by decide) (fun z2 => absurd z2 z) (fun _ => ?_)
  refine v_dload (i := 7) h 1131 1133 dL_law_1131 rfl ld7 ?_
  refine v_dload (i := 7) h 1133 1135 dL_law_1133 rfl ld7 ?_
  refine v_dcmp h 1135 1136 dL_law_1135 rfl ?_
  exact v_if_ne h 1136 1139 1141 dL_law_1136 rfl (by decide) (fun _ => kend _ (And.intro rfl (And.intro rfl (And.intro rfl (And.intro rfl (And.intro rfl trivial)))))) (fun z2 => absurd z2 z)
set_option maxRecDepth 100000 in
set_option maxHeartbeats 4000000 in
theorem b_append {E : EE} {Γ : Cx} {b D N i k n : Nat} {xs : Nat → Int32} {w0 : Nat → Option va_E} (h : OkB E Γ mLaw RL) (hZ : ZG E Γ) (hX : XG E Γ b N xs) (hE : E.1.stackTraces = false) (hN : N < 2 ^ 31) (hi : i + 5 ≤ N) (hk : k + 1 ≤ 601024 ∧ n + 6 ≤ 7293034) (nx : GoOn E Γ b D i (k + 1) (n + 6) 1284 w0) : GoOn E Γ b D i k n 1144 w0 := by
  intro d r t nh g hR
  obtain ⟨c, x, g', d', r', t', o1, o2, o3, o4, o5⟩ := op_append (D := D) (n := nh) (g := g) (w0 := w0) hE hR (xs (i + 1))
  unfold lLo
  refine v_aload_n (i := 1) h 1144 1145 dL_law_1144 rfl rfl ld1 ?_
  refine v_aload_n (i := 0) h 1145 1146 dL_law_1145 rfl rfl ld0 ?_
  refine v_iload (i := 4) h 1146 1148 dL_law_1146 rfl ld4 ?_
  refine v_iconst (v := nI 1) h 1148 1149 dL_law_1148 rfl (by decide) ?_
  refine v_iadd h 1149 1150 dL_law_1149 rfl ?_
  rw [nI_add]
  refine v_sld h hX 1150 1151 (i := i + 1) (by omega) hN dL_law_1150 rfl ?_
  refine v_aload_n (i := 3) h 1151 1152 dL_law_1151 rfl rfl ld3 ?_
  refine v_callS1h h hZ 1152 1155 dL_law_1152 rfl cb_L_append cs_L_append lk_L_138 (rok (by decide) (by decide)) ⟨hk.1, hk.2⟩ o1 rfl rfl (Nat.le_of_ble_eq_true rfl) (fun n' hn' => ?_)
  refine V.world (w' := sW E D d' r t n' g' w0) rfl ?_
  refine v_istore (i := 5) h 1155 1157 dL_law_1155 rfl (by decide) (so5 rfl) ?_
  refine v_aload_n (i := 2) h 1157 1158 dL_law_1157 rfl rfl ld2 ?_
  refine v_aload_n (i := 0) h 1158 1159 dL_law_1158 rfl rfl ld0 ?_
  refine v_iload (i := 4) h 1159 1161 dL_law_1159 rfl ld4 ?_
  refine v_iconst (v := nI 1) h 1161 1162 dL_law_1161 rfl (by decide) ?_
  refine v_iadd h 1162 1163 dL_law_1162 rfl ?_
  rw [nI_add]
  refine v_sld h hX 1163 1164 (i := i + 1) (by omega) hN dL_law_1163 rfl ?_
  refine v_callV1 h 1164 1167 dL_law_1164 rfl cb_X4_append cv_X4_append sW_m lk_L_140 (rok (by decide) (by decide)) ⟨rfl, rfl⟩ ⟨hk.1, hk.2⟩ (o2 n') rfl rfl (Nat.le_of_ble_eq_true rfl) ?_
  refine v_istore (i := 6) h 1167 1169 dL_law_1167 rfl (by decide) (so6 rfl) ?_
  refine v_aload_n (i := 2) h 1169 1170 dL_law_1169 rfl rfl ld2 ?_
  refine v_callV1 h 1170 1173 dL_law_1170 rfl cb_X4_thrown cv_X4_thrown sW_m lk_L_77 (rok (by decide) (by decide)) ⟨rfl, rfl⟩ ⟨hk.1, hk.2⟩ thr_s rfl rfl (Nat.le_of_ble_eq_true rfl) ?_
  rw [o3]
  refine v_iload (i := 5) h 1173 1175 dL_law_1173 rfl ld5 ?_
  refine v_icmp_eq h 1175 1178 1180 dL_law_1175 rfl (by decide) (fun _ => ?_) (fun hh => absurd rfl hh)
  refine v_iload (i := 5) h 1180 1182 dL_law_1180 rfl ld5 ?_
  refine v_if_ne h 1182 1185 1197 dL_law_1182 rfl (by decide) (fun _ => ?_) (fun h0 => ?_)
  · refine v_goto h 1197 1284 dL_law_1197 (by decide) ?_
    exact V.weakT (nx d' r' t' n' g' o5) (And.intro rfl (And.intro rfl (And.intro rfl (And.intro rfl (And.intro rfl trivial)))))
  · refine v_aload_n (i := 3) h 1185 1186 dL_law_1185 rfl rfl ld3 ?_
    refine v_iconst (v := nI 0) h 1186 1187 dL_law_1186 rfl (by decide) ?_
    refine v_lald h 1187 1188 dL_law_1187 rfl sW_o (vp_in_nI (n := 0) (by omega) (by decide)) ?_
    rw [nI_clamp (by omega), o4 h0]
    refine v_iload (i := 6) h 1188 1190 dL_law_1188 rfl ld6 ?_
    refine v_i2l h 1190 1191 dL_law_1190 rfl rfl ?_
    refine v_lcmp0 h 1191 1192 dL_law_1191 rfl ?_
    refine v_if_eq h 1192 1195 1197 dL_law_1192 rfl (by decide) (fun _ => ?_) (fun hh => absurd rfl hh)
    refine v_goto h 1197 1284 dL_law_1197 (by decide) ?_
    exact V.weakT (nx d' r' t' n' g' o5) (And.intro rfl (And.intro rfl (And.intro rfl (And.intro rfl (And.intro rfl trivial)))))
set_option maxRecDepth 100000 in
set_option maxHeartbeats 4000000 in
theorem b_clearText {E : EE} {Γ : Cx} {b D N i k n : Nat} {xs : Nat → Int32} {w0 : Nat → Option va_E} (h : OkB E Γ mLaw RL) (hZ : ZG E Γ) (hX : XG E Γ b N xs) (hE : E.1.stackTraces = false) (hN : N < 2 ^ 31) (hi : i + 5 ≤ N) (hk : k + 1 ≤ 601024 ∧ n + 6 ≤ 7293034) (nx : GoOn E Γ b D i (k + 1) (n + 6) 1284 w0) : GoOn E Γ b D i k n 1200 w0 := by
  intro d r t nh g hR
  obtain ⟨v, d', r', t', o1, o2, o3⟩ := op_clearText (E := E) (D := D) (n := nh) (g := g) (w0 := w0) hR
  unfold lLo
  refine v_aload_n (i := 1) h 1200 1201 dL_law_1200 rfl rfl ld1 ?_
  refine v_callV1 h 1201 1204 dL_law_1201 rfl cb_X3_clearText cv_X3_clearText sW_d lk_L_141 (rok (by decide) (by decide)) ⟨rfl, rfl⟩ ⟨by have := hk.1; show k ≤ 601024; omega, by have := hk.2; show n ≤ 7293034; omega⟩ o1 rfl rfl (Nat.le_of_ble_eq_true rfl) ?_
  refine v_aload_n (i := 2) h 1204 1205 dL_law_1204 rfl rfl ld2 ?_
  refine v_callV1 h 1205 1208 dL_law_1205 rfl cb_X4_clearText cv_X4_clearText sW_m lk_L_144 (rok (by decide) (by decide)) ⟨rfl, rfl⟩ ⟨by have := hk.1; show k ≤ 601024; omega, by have := hk.2; show n ≤ 7293034; omega⟩ o2 rfl rfl (Nat.le_of_ble_eq_true rfl) ?_
  exact v_icmp_eq h 1208 1211 1284 dL_law_1208 rfl (by decide) (fun _ => V.widen (k' := k + 1) (n' := n + 6) (by omega) (by omega) (V.weakT (nx d' r' t' nh g o3) (And.intro rfl (And.intro rfl (And.intro rfl (And.intro rfl (And.intro rfl trivial))))))) (fun hh => absurd rfl hh)
set_option maxRecDepth 100000 in
set_option maxHeartbeats 4000000 in
theorem b_parse {E : EE} {Γ : Cx} {b D N i k n : Nat} {xs : Nat → Int32} {w0 : Nat → Option va_E} (h : OkB E Γ mLaw RL) (hZ : ZG E Γ) (hX : XG E Γ b N xs) (hE : E.1.stackTraces = false) (hN : N < 2 ^ 31) (hi : i + 5 ≤ N) (hk : k + 1 ≤ 601024 ∧ n + 6 ≤ 7293034) (nx : GoOn E Γ b D i (k + 1) (n + 6) 1284 w0) : GoOn E Γ b D i k n 1213 w0 := by
  intro d r t nh g hR
  obtain ⟨v, d', r', t', o1, o2, o3⟩ := op_parse (E := E) (D := D) (n := nh) (g := g) (w0 := w0) hR
  unfold lLo
  refine v_aload_n (i := 1) h 1213 1214 dL_law_1213 rfl rfl ld1 ?_
  refine v_callV1 h 1214 1217 dL_law_1214 rfl cb_X3_parse cv_X3_parse sW_d lk_L_145 (rok (by decide) (by decide)) ⟨rfl, rfl⟩ ⟨by have := hk.1; show k ≤ 601024; omega, by have := hk.2; show n ≤ 7293034; omega⟩ o1 rfl rfl (Nat.le_of_ble_eq_true rfl) ?_
  refine v_aload_n (i := 2) h 1217 1218 dL_law_1217 rfl rfl ld2 ?_
  refine v_callV1 h 1218 1221 dL_law_1218 rfl cb_X4_parse cv_X4_parse sW_m lk_L_148 (rok (by decide) (by decide)) ⟨rfl, rfl⟩ ⟨by have := hk.1; show k ≤ 601024; omega, by have := hk.2; show n ≤ 7293034; omega⟩ o2 rfl rfl (Nat.le_of_ble_eq_true rfl) ?_
  exact v_icmp_eq h 1221 1224 1284 dL_law_1221 rfl (by decide) (fun _ => V.widen (k' := k + 1) (n' := n + 6) (by omega) (by omega) (V.weakT (nx d' r' t' nh g o3) (And.intro rfl (And.intro rfl (And.intro rfl (And.intro rfl (And.intro rfl trivial))))))) (fun hh => absurd rfl hh)
set_option maxRecDepth 100000 in
set_option maxHeartbeats 4000000 in
theorem b_undo {E : EE} {Γ : Cx} {b D N i k n : Nat} {xs : Nat → Int32} {w0 : Nat → Option va_E} (h : OkB E Γ mLaw RL) (hZ : ZG E Γ) (hX : XG E Γ b N xs) (hE : E.1.stackTraces = false) (hN : N < 2 ^ 31) (hi : i + 5 ≤ N) (hk : k + 1 ≤ 601024 ∧ n + 6 ≤ 7293034) (nx : GoOn E Γ b D i (k + 1) (n + 6) 1284 w0) : GoOn E Γ b D i k n 1226 w0 := by
  intro d r t nh g hR
  obtain ⟨c, x, g', d', r', t', o1, o2, o3, o4, o5⟩ := op_undo (D := D) (n := nh) (g := g) (w0 := w0) hE hR 
  unfold lLo
  refine v_aload_n (i := 1) h 1226 1227 dL_law_1226 rfl rfl ld1 ?_
  refine v_aload_n (i := 3) h 1227 1228 dL_law_1227 rfl rfl ld3 ?_
  refine v_callS1h h hZ 1228 1231 dL_law_1228 rfl cb_L_undo cs_L_undo lk_L_149 (rok (by decide) (by decide)) ⟨hk.1, hk.2⟩ o1 rfl rfl (Nat.le_of_ble_eq_true rfl) (fun n' hn' => ?_)
  refine V.world (w' := sW E D d' r t n' g' w0) rfl ?_
  refine v_istore (i := 5) h 1231 1233 dL_law_1231 rfl (by decide) (so5 rfl) ?_
  refine v_aload_n (i := 2) h 1233 1234 dL_law_1233 rfl rfl ld2 ?_
  refine v_callV1 h 1234 1237 dL_law_1234 rfl cb_X4_undo cv_X4_undo sW_m lk_L_152 (rok (by decide) (by decide)) ⟨rfl, rfl⟩ ⟨hk.1, hk.2⟩ (o2 n') rfl rfl (Nat.le_of_ble_eq_true rfl) ?_
  refine v_istore (i := 6) h 1237 1239 dL_law_1237 rfl (by decide) (so6 rfl) ?_
  refine v_aload_n (i := 2) h 1239 1240 dL_law_1239 rfl rfl ld2 ?_
  refine v_callV1 h 1240 1243 dL_law_1240 rfl cb_X4_thrown cv_X4_thrown sW_m lk_L_77 (rok (by decide) (by decide)) ⟨rfl, rfl⟩ ⟨hk.1, hk.2⟩ thr_s rfl rfl (Nat.le_of_ble_eq_true rfl) ?_
  rw [o3]
  refine v_iload (i := 5) h 1243 1245 dL_law_1243 rfl ld5 ?_
  refine v_icmp_eq h 1245 1248 1250 dL_law_1245 rfl (by decide) (fun _ => ?_) (fun hh => absurd rfl hh)
  refine v_iload (i := 5) h 1250 1252 dL_law_1250 rfl ld5 ?_
  refine v_if_ne h 1252 1255 1267 dL_law_1252 rfl (by decide) (fun _ => ?_) (fun h0 => ?_)
  · refine v_goto h 1267 1284 dL_law_1267 (by decide) ?_
    exact V.weakT (nx d' r' t' n' g' o5) (And.intro rfl (And.intro rfl (And.intro rfl (And.intro rfl (And.intro rfl trivial)))))
  · refine v_aload_n (i := 3) h 1255 1256 dL_law_1255 rfl rfl ld3 ?_
    refine v_iconst (v := nI 0) h 1256 1257 dL_law_1256 rfl (by decide) ?_
    refine v_lald h 1257 1258 dL_law_1257 rfl sW_o (vp_in_nI (n := 0) (by omega) (by decide)) ?_
    rw [nI_clamp (by omega), o4 h0]
    refine v_iload (i := 6) h 1258 1260 dL_law_1258 rfl ld6 ?_
    refine v_i2l h 1260 1261 dL_law_1260 rfl rfl ?_
    refine v_lcmp0 h 1261 1262 dL_law_1261 rfl ?_
    refine v_if_eq h 1262 1265 1267 dL_law_1262 rfl (by decide) (fun _ => ?_) (fun hh => absurd rfl hh)
    refine v_goto h 1267 1284 dL_law_1267 (by decide) ?_
    exact V.weakT (nx d' r' t' n' g' o5) (And.intro rfl (And.intro rfl (And.intro rfl (And.intro rfl (And.intro rfl trivial)))))
set_option maxRecDepth 100000 in
set_option maxHeartbeats 4000000 in
theorem b_digest {E : EE} {Γ : Cx} {b D N i k n : Nat} {xs : Nat → Int32} {w0 : Nat → Option va_E} (h : OkB E Γ mLaw RL) (hZ : ZG E Γ) (hX : XG E Γ b N xs) (hE : E.1.stackTraces = false) (hN : N < 2 ^ 31) (hi : i + 5 ≤ N) (hk : k + 1 ≤ 601024 ∧ n + 6 ≤ 7293034) (nx : GoOn E Γ b D i (k + 1) (n + 6) 1284 w0) : GoOn E Γ b D i k n 1270 w0 := by
  intro d r t nh g hR
  obtain ⟨v, d', r', t', o1, o2, o3⟩ := op_digest (E := E) (D := D) (n := nh) (g := g) (w0 := w0) hR
  unfold lLo
  refine v_aload_n (i := 1) h 1270 1271 dL_law_1270 rfl rfl ld1 ?_
  refine v_callV1 h 1271 1274 dL_law_1271 rfl cb_X3_digest cv_X3_digest sW_d lk_L_153 (rok (by decide) (by decide)) ⟨rfl, rfl⟩ ⟨by have := hk.1; show k ≤ 601024; omega, by have := hk.2; show n ≤ 7293034; omega⟩ o1 rfl rfl (Nat.le_of_ble_eq_true rfl) ?_
  refine v_aload_n (i := 2) h 1274 1275 dL_law_1274 rfl rfl ld2 ?_
  refine v_callV1 h 1275 1278 dL_law_1275 rfl cb_X4_digest cv_X4_digest sW_m lk_L_157 (rok (by decide) (by decide)) ⟨rfl, rfl⟩ ⟨by have := hk.1; show k ≤ 601024; omega, by have := hk.2; show n ≤ 7293034; omega⟩ o2 rfl rfl (Nat.le_of_ble_eq_true rfl) ?_
  refine v_lcmp0 h 1278 1279 dL_law_1278 rfl ?_
  exact v_if_eq h 1279 1282 1284 dL_law_1279 rfl (by decide) (fun _ => V.widen (k' := k + 1) (n' := n + 6) (by omega) (by omega) (V.weakT (nx d' r' t' nh g o3) (And.intro rfl (And.intro rfl (And.intro rfl (And.intro rfl (And.intro rfl trivial))))))) (fun hh => absurd rfl hh)
