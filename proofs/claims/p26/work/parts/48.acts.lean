/-! THE LAW'S ACTS, one by one -/
def AC (E : EE) (D n : Nat) (S0 S1 : St) (Sv : Nat → St) (ks e : Nat) (R : St) (nc v c0 : Nat) (F : Nat → Option va_E) (pc : Nat) : Prop := ∃ (S0' S1' : St) (Sv' : Nat → St) (ks' e' : Nat) (R' : St) (nc' nt' ne' m' : Nat), Rl S0' R' ks' e' nc' nt' ne' m' ∧ ∀ (Γ : Cx) (z : Int32), OkB E Γ mL_acts RL → ZG E Γ → Fz E Γ mL_acts (some (.int 1)) (lw E (D + 141) R' (dl E D S0' S1' Sv' (nI ks') (nI e') 0 (fun _ => 0) (n, F))) → V E Γ 0 0 pc [some (.ref D), some (.ref (D + 141)), some (.ref (D + 141 + 1)), some (.ref (D + 141 + 2)), some (.ref (D + 141 + 3)), some (.int z), some (.int (nI v)), some (.int (nI nc)), some (.int (nI c0)), none, none, none, none, none, none, none, none, none] [] (lw E (D + 141) R (dl E D S0 S1 Sv (nI ks) (nI e) 0 (fun _ => 0) (n, F)))
set_option maxRecDepth 100000 in
set_option maxHeartbeats 4000000 in
theorem a_ways {E : EE} (hE : E.1.stackTraces = false) {D n : Nat} {S0 S1 R : St} {Sv : Nat → St} {ks e nc nt ne m v c0 : Nat} {F : Nat → Option va_E} (hR : Rl S0 R ks e nc nt ne m) (hv : v < 10000000) (hc0 : c0 = if nc = 0 then 0 else v % nc) : AC E D n S0 S1 Sv ks e R nc v c0 F 108 := by
  obtain ⟨hI, hJ, h8, hm, hA, he, hks⟩ := id hR
  have hnt := hI.n4
  have hn := hI.n14
  have hI0 : Inv S0 3 nc nt ne m := hA.inv hI
  have h0 : R 0 = nI 3 := hI.1.1.1
  have z0 : S0 0 = nI 3 := hI0.1.1.1
  refine ⟨upd S0 (1 + v % 2) (nI (1 + v / 7 % 20)), S1, va_up Sv e (cpS (Sv e) S0 nc nt), min 4 (ks + 1), (e + 1) % 4, upd R (1 + v % 2) (nI (1 + v / 7 % 20)), nc, nt, ne, m, ⟨inv_way hI (by omega) (by omega) (by omega), hJ.eq (fun c _ => ⟨Or.inl (upd_ne _ _ (by omega)), Or.inl (upd_ne _ _ (by omega))⟩) (fun t _ => Or.inl ⟨upd_ne _ _ (by omega), upd_ne _ _ (by omega)⟩), h8, hm, hA.up rfl, e4', ks4⟩, fun Γ z h hZ f => ?_⟩
  refine v_iload (i := 6) h 108 110 dL_acts_108 rfl ld6 ?_
  refine v_aload_n (i := 1) h 110 111 dL_acts_110 rfl rfl ld1 ?_
  refine v_iconst (v := nI 0) h 111 112 dL_acts_111 rfl (by decide) ?_
  refine v_ldG h 112 113 0 dL_acts_112 rfl (by omega) ?_
  try simp (disch := omega) only [upd_ne, upd_self]
  rw [h0]
  refine v_iconst (v := 1) h 113 114 dL_acts_113 rfl (by decide) ?_
  refine v_isub h 114 115 dL_acts_114 rfl ?_
  rw [show nI 3 - 1 = nI 2 by decide]
  refine v_iremN h 115 116 dL_acts_115 rfl (by omega) (by omega) (by omega) ?_
  refine v_istore (i := 9) h 116 118 dL_acts_116 rfl (by decide) (so9 rfl) ?_
  refine v_aload_n (i := 1) h 118 119 dL_acts_118 rfl rfl ld1 ?_
  refine v_iconst (v := nI 1) h 119 120 dL_acts_119 rfl (by decide) ?_
  refine v_iload (i := 9) h 120 122 dL_acts_120 rfl ld9 ?_
  refine v_iaddN h 122 123 dL_acts_122 rfl ?_
  refine v_ldG h 123 124 (1 + (v % 2)) dL_acts_123 rfl (by omega) ?_
  try simp (disch := omega) only [upd_ne, upd_self]
  refine v_istore (i := 10) h 124 126 dL_acts_124 rfl (by decide) (so10 rfl) ?_
  refine v_aload_n (i := 1) h 126 127 dL_acts_126 rfl rfl ld1 ?_
  refine v_iconst (v := nI 1) h 127 128 dL_acts_127 rfl (by decide) ?_
  refine v_iload (i := 9) h 128 130 dL_acts_128 rfl ld9 ?_
  refine v_iaddN h 130 131 dL_acts_130 rfl ?_
  refine v_iconst (v := nI 1) h 131 132 dL_acts_131 rfl (by decide) ?_
  refine v_iload (i := 6) h 132 134 dL_acts_132 rfl ld6 ?_
  refine v_bipush (v := nI 7) h 134 136 dL_acts_134 rfl (by decide) ?_
  refine v_idivN h 136 137 dL_acts_136 rfl (by omega) (by omega) (by omega) ?_
  refine v_bipush (v := nI 20) h 137 139 dL_acts_137 rfl (by decide) ?_
  refine v_iremN h 139 140 dL_acts_139 rfl (by omega) (by omega) (by omega) ?_
  refine v_iaddN h 140 141 dL_acts_140 rfl ?_
  refine v_stG h 141 142 (1 + (v % 2)) dL_acts_141 rfl (by omega) ?_
  refine v_aload_n (i := 0) h 142 143 dL_acts_142 rfl rfl ld0 ?_
  refine v_iload (i := 9) h 143 145 dL_acts_143 rfl ld9 ?_
  refine v_aload_n (i := 1) h 145 146 dL_acts_145 rfl rfl ld1 ?_
  refine v_iconst (v := nI 1) h 146 147 dL_acts_146 rfl (by decide) ?_
  refine v_iload (i := 9) h 147 149 dL_acts_147 rfl ld9 ?_
  refine v_iaddN h 149 150 dL_acts_149 rfl ?_
  refine v_ldG h 150 151 (1 + (v % 2)) dL_acts_150 rfl (by omega) ?_
  try simp (disch := omega) only [upd_ne, upd_self]
  refine v_callS1h h hZ 151 154 dL_acts_151 rfl cb_Lz_ways cs_Lz_ways lk_L_28 (rok (by decide) (by decide)) ⟨by decide, by decide⟩ (g_ways hD_lw (Cd.lw (fun w => c_setWay (k := v % 2) he hks hI0 (nI_pos (by omega)) (by rw [z0, show nI 3 - 2 = nI 1 by decide]; exact nI_nlt (by omega) (by omega)) (by omega) (nI_nlt (b := 1) (by omega) (by omega)) (nI_nlt (a := 20) (by omega) (by omega))))) rfl rfl (Nat.le_of_ble_eq_true rfl) (fun n151 hn151 => ?_)
  refine V.nx (k' := 0) (n' := 0) (w' := lw E (D + 141) (upd R (1 + v % 2) (nI (1 + v / 7 % 20))) (dl E D (upd S0 (1 + v % 2) (nI (1 + v / 7 % 20))) S1 (va_up Sv e (cpS (Sv e) S0 nc nt)) (nI (min 4 (ks + 1))) (nI ((e + 1) % 4)) 0 (fun _ => 0) (n151, F))) (by decide) (by decide) rfl ?_
  refine v_iload (i := 10) h 154 156 dL_acts_154 rfl ld10 ?_
  refine v_icmp_ne h 156 159 163 dL_acts_156 rfl (by decide) (fun h156 => absurd (hA.lo (i := 1 + v % 2) (by omega)) h156) (fun h156 => ?_)
  refine v_iconst (v := 1) h 159 160 dL_acts_159 rfl (by decide) ?_
  refine v_goto h 160 164 dL_acts_160 (by decide) ?_
  exact v_zretz h 164 f dL_acts_164 rfl rfl (by decide) (by decide) rfl hn151 rfl

set_option maxRecDepth 100000 in
set_option maxHeartbeats 4000000 in
theorem a_colds {E : EE} (hE : E.1.stackTraces = false) {D n : Nat} {S0 S1 R : St} {Sv : Nat → St} {ks e nc nt ne m v c0 : Nat} {F : Nat → Option va_E} (hR : Rl S0 R ks e nc nt ne m) (hv : v < 10000000) (hc0 : c0 = if nc = 0 then 0 else v % nc) : AC E D n S0 S1 Sv ks e R nc v c0 F 165 := by
  obtain ⟨hI, hJ, h8, hm, hA, he, hks⟩ := id hR
  have hnt := hI.n4
  have hn := hI.n14
  have hI0 : Inv S0 3 nc nt ne m := hA.inv hI
  have h0 : R 0 = nI 3 := hI.1.1.1
  have z0 : S0 0 = nI 3 := hI0.1.1.1
  by_cases h00 : nc = 0
  · rw [if_pos h00] at hc0
    refine ⟨S0, S1, Sv, ks, e, R, nc, nt, ne, m, hR, fun Γ z h hZ f => ?_⟩
    refine v_iload (i := 7) h 165 167 dL_acts_165 rfl ld7 ?_
    refine v_if_eq h 167 170 183 dL_acts_167 rfl (by decide) (fun h167 => ?_) (fun h167 => absurd (congrArg nI h00) h167)
    refine v_aload_n (i := 0) h 183 184 dL_acts_183 rfl rfl ld0 ?_
    refine v_iload (i := 8) h 184 186 dL_acts_184 rfl ld8 ?_
    refine v_iconst (v := 5) h 186 187 dL_acts_186 rfl (by decide) ?_
    refine v_callS1h h hZ 187 190 dL_acts_187 rfl cb_L_colds cs_L_colds lk_L_32 (rok (by decide) (by decide)) ⟨by decide, by decide⟩ (t_colds1 hD_lw (Cthr.lw (fun w => x_setCold1 hE (Or.inr (by rw [hI0.c7, h00]; exact nI_le (by omega) (by omega)))))) rfl rfl (Nat.le_of_ble_eq_true rfl) (fun n187 hn187 => ?_)
    refine V.nx (k' := 1) (n' := 6) (w' := lw E (D + 141) R (dl E D S0 S1 Sv (nI ks) (nI e) 0 (fun _ => 0) (n187, F))) (by decide) (by decide) rfl ?_
    refine v_iload (i := 7) h 190 192 dL_acts_190 rfl ld7 ?_
    refine v_if_ne h 192 195 200 dL_acts_192 rfl (by decide) (fun h192 => absurd (congrArg nI h00) h192) (fun h192 => ?_)
    refine v_ldc h 195 197 dL_acts_195 rfl kc_L_35 ?_
    refine v_goto h 197 202 dL_acts_197 (by decide) ?_
    refine v_icmp_ne h 202 205 209 dL_acts_202 rfl (by decide) (fun h202 => absurd (by decide) h202) (fun h202 => ?_)
    refine v_iconst (v := 1) h 205 206 dL_acts_205 rfl (by decide) ?_
    refine v_goto h 206 210 dL_acts_206 (by decide) ?_
    exact v_zretz h 210 f dL_acts_210 rfl rfl (by decide) (by decide) rfl hn187 rfl
  · rw [if_neg h00] at hc0
    have hc : c0 < nc := by rw [hc0]; exact Nat.mod_lt _ (by omega)
    by_cases z2 : R (13 + 8 * c0 + 4) = 2
    · refine ⟨S0, S1, Sv, ks, e, R, nc, nt, ne, m, hR, fun Γ z h hZ f => ?_⟩
      refine v_iload (i := 7) h 165 167 dL_acts_165 rfl ld7 ?_
      refine v_if_eq h 167 170 183 dL_acts_167 rfl (by decide) (fun h167 => absurd (nI_inj (b := 0) (by omega) (by omega) h167) h00) (fun h167 => ?_)
      refine v_aload_n (i := 2) h 170 171 dL_acts_170 rfl rfl ld2 ?_
      refine v_bipush (v := nI 8) h 171 173 dL_acts_171 rfl (by decide) ?_
      refine v_iload (i := 8) h 173 175 dL_acts_173 rfl ld8 ?_
      refine v_imulN h 175 176 dL_acts_175 rfl ?_
      refine v_iconst (v := nI 4) h 176 177 dL_acts_176 rfl (by decide) ?_
      refine v_iaddN h 177 178 dL_acts_177 rfl ?_
      refine v_ldE h 178 179 c0 4 dL_acts_178 rfl (by omega) (by omega) ?_
      try simp (disch := omega) only [upd_ne, upd_self]
      refine v_iconst (v := 2) h 179 180 dL_acts_179 rfl (by decide) ?_
      refine v_icmp_ne h 180 183 211 dL_acts_180 rfl (by decide) (fun h180 => absurd z2 h180) (fun h180 => ?_)
      refine v_aload_n (i := 0) h 183 184 dL_acts_183 rfl rfl ld0 ?_
      refine v_iload (i := 8) h 184 186 dL_acts_184 rfl ld8 ?_
      refine v_iconst (v := 5) h 186 187 dL_acts_186 rfl (by decide) ?_
      refine v_callS1h h hZ 187 190 dL_acts_187 rfl cb_L_colds cs_L_colds lk_L_32 (rok (by decide) (by decide)) ⟨by decide, by decide⟩ (t_colds3 hD_lw (Cthr.lw (fun w => x_setCold3 hE hI0 hc (by decide) (by decide) ((hA.ch hc (by omega)).trans z2)))) rfl rfl (Nat.le_of_ble_eq_true rfl) (fun n187 hn187 => ?_)
      refine V.nx (k' := 1) (n' := 6) (w' := lw E (D + 141) R (dl E D S0 S1 Sv (nI ks) (nI e) 0 (fun _ => 0) (n187, F))) (by decide) (by decide) rfl ?_
      refine v_iload (i := 7) h 190 192 dL_acts_190 rfl ld7 ?_
      refine v_if_ne h 192 195 200 dL_acts_192 rfl (by decide) (fun h192 => ?_) (fun h192 => absurd (nI_inj (b := 0) (by omega) (by omega) h192) h00)
      refine v_ldc h 200 202 dL_acts_200 rfl kc_L_36 ?_
      refine v_icmp_ne h 202 205 209 dL_acts_202 rfl (by decide) (fun h202 => absurd (by decide) h202) (fun h202 => ?_)
      refine v_iconst (v := 1) h 205 206 dL_acts_205 rfl (by decide) ?_
      refine v_goto h 206 210 dL_acts_206 (by decide) ?_
      exact v_zretz h 210 f dL_acts_210 rfl rfl (by decide) (by decide) rfl hn187 rfl
    · refine ⟨upd S0 (13 + 8 * c0 + 2) (nI (v / 8 % 21)), S1, va_up Sv e (cpS (Sv e) S0 nc nt), min 4 (ks + 1), (e + 1) % 4, upd R (13 + 8 * c0 + 2) (nI (v / 8 % 21)), nc, nt, ne, m, ⟨inv_cold hI (by omega) (by omega), hJ.eq (fun c _ => ⟨Or.inl (upd_ne _ _ (by omega)), Or.inl (upd_ne _ _ (by omega))⟩) (fun t _ => Or.inl ⟨upd_ne _ _ (by omega), upd_ne _ _ (by omega)⟩), h8, hm, hA.up rfl, e4', ks4⟩, fun Γ z h hZ f => ?_⟩
      refine v_iload (i := 7) h 165 167 dL_acts_165 rfl ld7 ?_
      refine v_if_eq h 167 170 183 dL_acts_167 rfl (by decide) (fun h167 => absurd (nI_inj (b := 0) (by omega) (by omega) h167) h00) (fun h167 => ?_)
      refine v_aload_n (i := 2) h 170 171 dL_acts_170 rfl rfl ld2 ?_
      refine v_bipush (v := nI 8) h 171 173 dL_acts_171 rfl (by decide) ?_
      refine v_iload (i := 8) h 173 175 dL_acts_173 rfl ld8 ?_
      refine v_imulN h 175 176 dL_acts_175 rfl ?_
      refine v_iconst (v := nI 4) h 176 177 dL_acts_176 rfl (by decide) ?_
      refine v_iaddN h 177 178 dL_acts_177 rfl ?_
      refine v_ldE h 178 179 c0 4 dL_acts_178 rfl (by omega) (by omega) ?_
      try simp (disch := omega) only [upd_ne, upd_self]
      refine v_iconst (v := 2) h 179 180 dL_acts_179 rfl (by decide) ?_
      refine v_icmp_ne h 180 183 211 dL_acts_180 rfl (by decide) (fun h180 => ?_) (fun h180 => absurd h180 z2)
      refine v_aload_n (i := 2) h 211 212 dL_acts_211 rfl rfl ld2 ?_
      refine v_bipush (v := nI 8) h 212 214 dL_acts_212 rfl (by decide) ?_
      refine v_iload (i := 8) h 214 216 dL_acts_214 rfl ld8 ?_
      refine v_imulN h 216 217 dL_acts_216 rfl ?_
      refine v_iconst (v := nI 2) h 217 218 dL_acts_217 rfl (by decide) ?_
      refine v_iaddN h 218 219 dL_acts_218 rfl ?_
      refine v_ldE h 219 220 c0 2 dL_acts_219 rfl (by omega) (by omega) ?_
      try simp (disch := omega) only [upd_ne, upd_self]
      refine v_istore (i := 11) h 220 222 dL_acts_220 rfl (by decide) (so11 rfl) ?_
      refine v_aload_n (i := 2) h 222 223 dL_acts_222 rfl rfl ld2 ?_
      refine v_bipush (v := nI 8) h 223 225 dL_acts_223 rfl (by decide) ?_
      refine v_iload (i := 8) h 225 227 dL_acts_225 rfl ld8 ?_
      refine v_imulN h 227 228 dL_acts_227 rfl ?_
      refine v_iconst (v := nI 2) h 228 229 dL_acts_228 rfl (by decide) ?_
      refine v_iaddN h 229 230 dL_acts_229 rfl ?_
      refine v_iload (i := 6) h 230 232 dL_acts_230 rfl ld6 ?_
      refine v_bipush (v := nI 8) h 232 234 dL_acts_232 rfl (by decide) ?_
      refine v_idivN h 234 235 dL_acts_234 rfl (by omega) (by omega) (by omega) ?_
      refine v_bipush (v := nI 21) h 235 237 dL_acts_235 rfl (by decide) ?_
      refine v_iremN h 237 238 dL_acts_237 rfl (by omega) (by omega) (by omega) ?_
      refine v_stE h 238 239 c0 2 dL_acts_238 rfl (by omega) (by omega) ?_
      refine v_aload_n (i := 0) h 239 240 dL_acts_239 rfl rfl ld0 ?_
      refine v_iload (i := 8) h 240 242 dL_acts_240 rfl ld8 ?_
      refine v_aload_n (i := 2) h 242 243 dL_acts_242 rfl rfl ld2 ?_
      refine v_bipush (v := nI 8) h 243 245 dL_acts_243 rfl (by decide) ?_
      refine v_iload (i := 8) h 245 247 dL_acts_245 rfl ld8 ?_
      refine v_imulN h 247 248 dL_acts_247 rfl ?_
      refine v_iconst (v := nI 2) h 248 249 dL_acts_248 rfl (by decide) ?_
      refine v_iaddN h 249 250 dL_acts_249 rfl ?_
      refine v_ldE h 250 251 c0 2 dL_acts_250 rfl (by omega) (by omega) ?_
      try simp (disch := omega) only [upd_ne, upd_self]
      refine v_callS1h h hZ 251 254 dL_acts_251 rfl cb_Lz_colds cs_Lz_colds lk_L_32 (rok (by decide) (by decide)) ⟨by decide, by decide⟩ (g_colds hD_lw (Cd.lw (fun w => c_setCold he hks hI0 hc (nI_pos (by omega)) (nI_nlt (a := 20) (by omega) (by omega)) (by rw [hA.ch hc (by omega)]; exact z2)))) rfl rfl (Nat.le_of_ble_eq_true rfl) (fun n251 hn251 => ?_)
      refine V.nx (k' := 0) (n' := 0) (w' := lw E (D + 141) (upd R (13 + 8 * c0 + 2) (nI (v / 8 % 21))) (dl E D (upd S0 (13 + 8 * c0 + 2) (nI (v / 8 % 21))) S1 (va_up Sv e (cpS (Sv e) S0 nc nt)) (nI (min 4 (ks + 1))) (nI ((e + 1) % 4)) 0 (fun _ => 0) (n251, F))) (by decide) (by decide) rfl ?_
      refine v_iload (i := 11) h 254 256 dL_acts_254 rfl ld11 ?_
      refine v_icmp_ne h 256 259 263 dL_acts_256 rfl (by decide) (fun h256 => absurd (hA.ch hc (by omega)) h256) (fun h256 => ?_)
      refine v_iconst (v := 1) h 259 260 dL_acts_259 rfl (by decide) ?_
      refine v_goto h 260 264 dL_acts_260 (by decide) ?_
      exact v_zretz h 264 f dL_acts_264 rfl rfl (by decide) (by decide) rfl hn251 rfl

set_option maxRecDepth 100000 in
set_option maxHeartbeats 4000000 in
theorem a_calls {E : EE} (hE : E.1.stackTraces = false) {D n : Nat} {S0 S1 R : St} {Sv : Nat → St} {ks e nc nt ne m v c0 : Nat} {F : Nat → Option va_E} (hR : Rl S0 R ks e nc nt ne m) (hv : v < 10000000) (hc0 : c0 = if nc = 0 then 0 else v % nc) : AC E D n S0 S1 Sv ks e R nc v c0 F 265 := by
  obtain ⟨hI, hJ, h8, hm, hA, he, hks⟩ := id hR
  have hnt := hI.n4
  have hn := hI.n14
  have hI0 : Inv S0 3 nc nt ne m := hA.inv hI
  have h0 : R 0 = nI 3 := hI.1.1.1
  have z0 : S0 0 = nI 3 := hI0.1.1.1
  by_cases h00 : nt = 0
  · refine ⟨S0, S1, Sv, ks, e, R, nc, nt, ne, m, hR, fun Γ z h hZ f => ?_⟩
    refine v_aload_n (i := 1) h 265 266 dL_acts_265 rfl rfl ld1 ?_
    refine v_bipush (v := nI 8) h 266 268 dL_acts_266 rfl (by decide) ?_
    refine v_ldG h 268 269 8 dL_acts_268 rfl (by omega) ?_
    try simp (disch := omega) only [upd_ne, upd_self]
    rw [hI.c8]
    refine v_if_ne h 269 272 288 dL_acts_269 rfl (by decide) (fun h269 => absurd (congrArg nI h00) h269) (fun h269 => ?_)
    refine v_aload_n (i := 0) h 272 273 dL_acts_272 rfl rfl ld0 ?_
    refine v_iconst (v := nI 0) h 273 274 dL_acts_273 rfl (by decide) ?_
    refine v_callS1h h hZ 274 277 dL_acts_274 rfl cb_L_calls cs_L_calls lk_L_37 (rok (by decide) (by decide)) ⟨by decide, by decide⟩ (t_calls1 hD_lw (Cthr.lw (fun w => x_callOff1 hE (Or.inr (by rw [hI0.c8, h00]; exact nI_le (by omega) (by omega)))))) rfl rfl (Nat.le_of_ble_eq_true rfl) (fun n274 hn274 => ?_)
    refine V.nx (k' := 1) (n' := 6) (w' := lw E (D + 141) R (dl E D S0 S1 Sv (nI ks) (nI e) 0 (fun _ => 0) (n274, F))) (by decide) (by decide) rfl ?_
    refine v_ldc h 277 279 dL_acts_277 rfl kc_L_35 ?_
    refine v_icmp_ne h 279 282 286 dL_acts_279 rfl (by decide) (fun h279 => absurd (by decide) h279) (fun h279 => ?_)
    refine v_iconst (v := 1) h 282 283 dL_acts_282 rfl (by decide) ?_
    refine v_goto h 283 287 dL_acts_283 (by decide) ?_
    exact v_zretz h 287 f dL_acts_287 rfl rfl (by decide) (by decide) rfl hn274 rfl
  · obtain ⟨t, ht'⟩ : ∃ t, t = v % nt := ⟨_, rfl⟩
    have ht : t < nt := by rw [ht']; exact Nat.mod_lt _ (by omega)
    have iJ : ∀ X : St, (∀ i, i < 125 + 8 * t + 2 ∨ 125 + 8 * t + 4 < i → (i ≤ 12 ∨ 125 ≤ i ∨ ∃ c, i = 13 + 8 * c + 6 ∨ i = 13 + 8 * c + 7) → X i = R i) → X (125 + 8 * t + 2) = 0 → J2 X nc nt := fun X h1 h2 => hJ.eq (fun c hc => ⟨Or.inl (h1 _ (by omega) (Or.inr (Or.inr ⟨c, Or.inl rfl⟩))), Or.inl (h1 _ (by omega) (Or.inr (Or.inr ⟨c, Or.inr rfl⟩)))⟩) (fun u hu => by
      by_cases q : u = t
      · rw [q]; exact Or.inr (Or.inl h2)
      · exact Or.inl ⟨h1 _ (by omega) (by omega), h1 _ (by omega) (by omega)⟩)
    have hcase : R (125 + 8 * t + 4) = -1 ∨ ∃ c, c < nc ∧ R (125 + 8 * t + 4) = nI c := by
      rcases (hI.2.2.2 t ht).2.2 with ⟨-, d⟩ | ⟨-, c, hc, d, -⟩
      · exact Or.inl d
      · exact Or.inr ⟨c, hc, d⟩
    rcases hcase with z4 | ⟨c, hc, z4⟩
    · refine ⟨idleS S0 t, S1, va_up Sv e (cpS (Sv e) S0 nc nt), min 4 (ks + 1), (e + 1) % 4, idleS R t, nc, nt, ne, m, ⟨inv_idle hI ht, iJ _ (fun i h1 _ => idleS_ne h1) (by unfold idleS; simp (disch := omega) only [upd_ne, upd_self]), h8, hm, hA.idle t, e4', ks4⟩, fun Γ z h hZ f => ?_⟩
      refine v_aload_n (i := 1) h 265 266 dL_acts_265 rfl rfl ld1 ?_
      refine v_bipush (v := nI 8) h 266 268 dL_acts_266 rfl (by decide) ?_
      refine v_ldG h 268 269 8 dL_acts_268 rfl (by omega) ?_
      try simp (disch := omega) only [upd_ne, upd_self]
      rw [hI.c8]
      refine v_if_ne h 269 272 288 dL_acts_269 rfl (by decide) (fun h269 => ?_) (fun h269 => absurd (nI_inj (b := 0) (by omega) (by omega) h269) h00)
      refine v_iload (i := 6) h 288 290 dL_acts_288 rfl ld6 ?_
      refine v_aload_n (i := 1) h 290 291 dL_acts_290 rfl rfl ld1 ?_
      refine v_bipush (v := nI 8) h 291 293 dL_acts_291 rfl (by decide) ?_
      refine v_ldG h 293 294 8 dL_acts_293 rfl (by omega) ?_
      try simp (disch := omega) only [upd_ne, upd_self]
      rw [hI.c8]
      refine v_iremN h 294 295 dL_acts_294 rfl (by omega) (by omega) (by omega) ?_
      rw [← ht']
      refine v_istore (i := 12) h 295 297 dL_acts_295 rfl (by decide) (so12 rfl) ?_
      refine v_aload_n (i := 3) h 297 298 dL_acts_297 rfl rfl ld3 ?_
      refine v_bipush (v := nI 8) h 298 300 dL_acts_298 rfl (by decide) ?_
      refine v_iload (i := 12) h 300 302 dL_acts_300 rfl ld12 ?_
      refine v_imulN h 302 303 dL_acts_302 rfl ?_
      refine v_iconst (v := nI 4) h 303 304 dL_acts_303 rfl (by decide) ?_
      refine v_iaddN h 304 305 dL_acts_304 rfl ?_
      refine v_ldQ h 305 306 t 4 dL_acts_305 rfl (by omega) (by omega) ?_
      try simp (disch := omega) only [upd_ne, upd_self]
      rw [z4]
      refine v_istore (i := 13) h 306 308 dL_acts_306 rfl (by decide) (so13 rfl) ?_
      refine v_iload (i := 13) h 308 310 dL_acts_308 rfl ld13 ?_
      refine v_if_lt h 310 313 333 dL_acts_310 rfl (by decide) (fun h310 => ?_) (fun h310 => absurd (by decide) h310)
      refine v_aload_n (i := 3) h 333 334 dL_acts_333 rfl rfl ld3 ?_
      refine v_bipush (v := nI 8) h 334 336 dL_acts_334 rfl (by decide) ?_
      refine v_iload (i := 12) h 336 338 dL_acts_336 rfl ld12 ?_
      refine v_imulN h 338 339 dL_acts_338 rfl ?_
      refine v_iconst (v := nI 2) h 339 340 dL_acts_339 rfl (by decide) ?_
      refine v_iaddN h 340 341 dL_acts_340 rfl ?_
      refine v_iconst (v := 0) h 341 342 dL_acts_341 rfl (by decide) ?_
      refine v_stQ h 342 343 t 2 dL_acts_342 rfl (by omega) (by omega) ?_
      refine v_aload_n (i := 3) h 343 344 dL_acts_343 rfl rfl ld3 ?_
      refine v_bipush (v := nI 8) h 344 346 dL_acts_344 rfl (by decide) ?_
      refine v_iload (i := 12) h 346 348 dL_acts_346 rfl ld12 ?_
      refine v_imulN h 348 349 dL_acts_348 rfl ?_
      refine v_iconst (v := nI 3) h 349 350 dL_acts_349 rfl (by decide) ?_
      refine v_iaddN h 350 351 dL_acts_350 rfl ?_
      refine v_iconst (v := 0) h 351 352 dL_acts_351 rfl (by decide) ?_
      refine v_stQ h 352 353 t 3 dL_acts_352 rfl (by omega) (by omega) ?_
      refine v_aload_n (i := 3) h 353 354 dL_acts_353 rfl rfl ld3 ?_
      refine v_bipush (v := nI 8) h 354 356 dL_acts_354 rfl (by decide) ?_
      refine v_iload (i := 12) h 356 358 dL_acts_356 rfl ld12 ?_
      refine v_imulN h 358 359 dL_acts_358 rfl ?_
      refine v_iconst (v := nI 4) h 359 360 dL_acts_359 rfl (by decide) ?_
      refine v_iaddN h 360 361 dL_acts_360 rfl ?_
      refine v_iconst (v := (-1)) h 361 362 dL_acts_361 rfl (by decide) ?_
      refine v_stQ h 362 363 t 4 dL_acts_362 rfl (by omega) (by omega) ?_
      refine v_aload_n (i := 0) h 363 364 dL_acts_363 rfl rfl ld0 ?_
      refine v_iload (i := 12) h 364 366 dL_acts_364 rfl ld12 ?_
      refine v_callS1h h hZ 366 369 dL_acts_366 rfl cb_Lz_calls cs_Lz_calls lk_L_37 (rok (by decide) (by decide)) ⟨by decide, by decide⟩ (g_calls hD_lw (Cd.lw (fun w => c_callOff0 he hks hI0 ht ((hA.tm ht (by omega)).trans z4)))) rfl rfl (Nat.le_of_ble_eq_true rfl) (fun n366 hn366 => ?_)
      refine V.nx (k' := 0) (n' := 0) (w' := lw E (D + 141) (idleS R t) (dl E D (idleS S0 t) S1 (va_up Sv e (cpS (Sv e) S0 nc nt)) (nI (min 4 (ks + 1))) (nI ((e + 1) % 4)) 0 (fun _ => 0) (n366, F))) (by decide) (by decide) rfl ?_
      refine v_iload (i := 13) h 369 371 dL_acts_369 rfl ld13 ?_
      refine v_icmp_ne h 371 374 378 dL_acts_371 rfl (by decide) (fun h371 => absurd (by decide) h371) (fun h371 => ?_)
      refine v_iconst (v := 1) h 374 375 dL_acts_374 rfl (by decide) ?_
      refine v_goto h 375 379 dL_acts_375 (by decide) ?_
      exact v_zretz h 379 f dL_acts_379 rfl rfl (by decide) (by decide) rfl hn366 rfl
    · refine ⟨idleS (waitS S0 c) t, S1, va_up Sv e (cpS (Sv e) S0 nc nt), min 4 (ks + 1), (e + 1) % 4, idleS (waitS R c) t, nc, nt, ne, m, ⟨inv_off hI ht hc z4, iJ _ (fun i h1 h2 => by rw [idleS_ne h1, waitS_ne (by omega) (by omega)]) (by unfold idleS; simp (disch := omega) only [upd_ne, upd_self]), h8, hm, (hA.wait c).idle t, e4', ks4⟩, fun Γ z h hZ f => ?_⟩
      refine v_aload_n (i := 1) h 265 266 dL_acts_265 rfl rfl ld1 ?_
      refine v_bipush (v := nI 8) h 266 268 dL_acts_266 rfl (by decide) ?_
      refine v_ldG h 268 269 8 dL_acts_268 rfl (by omega) ?_
      try simp (disch := omega) only [upd_ne, upd_self]
      rw [hI.c8]
      refine v_if_ne h 269 272 288 dL_acts_269 rfl (by decide) (fun h269 => ?_) (fun h269 => absurd (nI_inj (b := 0) (by omega) (by omega) h269) h00)
      refine v_iload (i := 6) h 288 290 dL_acts_288 rfl ld6 ?_
      refine v_aload_n (i := 1) h 290 291 dL_acts_290 rfl rfl ld1 ?_
      refine v_bipush (v := nI 8) h 291 293 dL_acts_291 rfl (by decide) ?_
      refine v_ldG h 293 294 8 dL_acts_293 rfl (by omega) ?_
      try simp (disch := omega) only [upd_ne, upd_self]
      rw [hI.c8]
      refine v_iremN h 294 295 dL_acts_294 rfl (by omega) (by omega) (by omega) ?_
      rw [← ht']
      refine v_istore (i := 12) h 295 297 dL_acts_295 rfl (by decide) (so12 rfl) ?_
      refine v_aload_n (i := 3) h 297 298 dL_acts_297 rfl rfl ld3 ?_
      refine v_bipush (v := nI 8) h 298 300 dL_acts_298 rfl (by decide) ?_
      refine v_iload (i := 12) h 300 302 dL_acts_300 rfl ld12 ?_
      refine v_imulN h 302 303 dL_acts_302 rfl ?_
      refine v_iconst (v := nI 4) h 303 304 dL_acts_303 rfl (by decide) ?_
      refine v_iaddN h 304 305 dL_acts_304 rfl ?_
      refine v_ldQ h 305 306 t 4 dL_acts_305 rfl (by omega) (by omega) ?_
      try simp (disch := omega) only [upd_ne, upd_self]
      rw [z4]
      refine v_istore (i := 13) h 306 308 dL_acts_306 rfl (by decide) (so13 rfl) ?_
      refine v_iload (i := 13) h 308 310 dL_acts_308 rfl ld13 ?_
      refine v_if_lt h 310 313 333 dL_acts_310 rfl (by decide) (fun h310 => absurd h310 (nI_nlt (a := c) (b := 0) (by omega) (by omega))) (fun h310 => ?_)
      refine v_aload_n (i := 2) h 313 314 dL_acts_313 rfl rfl ld2 ?_
      refine v_bipush (v := nI 8) h 314 316 dL_acts_314 rfl (by decide) ?_
      refine v_iload (i := 13) h 316 318 dL_acts_316 rfl ld13 ?_
      refine v_imulN h 318 319 dL_acts_318 rfl ?_
      refine v_iconst (v := nI 4) h 319 320 dL_acts_319 rfl (by decide) ?_
      refine v_iaddN h 320 321 dL_acts_320 rfl ?_
      refine v_iconst (v := 0) h 321 322 dL_acts_321 rfl (by decide) ?_
      refine v_stE h 322 323 c 4 dL_acts_322 rfl (by omega) (by omega) ?_
      refine v_aload_n (i := 2) h 323 324 dL_acts_323 rfl rfl ld2 ?_
      refine v_bipush (v := nI 8) h 324 326 dL_acts_324 rfl (by decide) ?_
      refine v_iload (i := 13) h 326 328 dL_acts_326 rfl ld13 ?_
      refine v_imulN h 328 329 dL_acts_328 rfl ?_
      refine v_iconst (v := nI 5) h 329 330 dL_acts_329 rfl (by decide) ?_
      refine v_iaddN h 330 331 dL_acts_330 rfl ?_
      refine v_iconst (v := (-1)) h 331 332 dL_acts_331 rfl (by decide) ?_
      refine v_stE h 332 333 c 5 dL_acts_332 rfl (by omega) (by omega) ?_
      refine v_aload_n (i := 3) h 333 334 dL_acts_333 rfl rfl ld3 ?_
      refine v_bipush (v := nI 8) h 334 336 dL_acts_334 rfl (by decide) ?_
      refine v_iload (i := 12) h 336 338 dL_acts_336 rfl ld12 ?_
      refine v_imulN h 338 339 dL_acts_338 rfl ?_
      refine v_iconst (v := nI 2) h 339 340 dL_acts_339 rfl (by decide) ?_
      refine v_iaddN h 340 341 dL_acts_340 rfl ?_
      refine v_iconst (v := 0) h 341 342 dL_acts_341 rfl (by decide) ?_
      refine v_stQ h 342 343 t 2 dL_acts_342 rfl (by omega) (by omega) ?_
      refine v_aload_n (i := 3) h 343 344 dL_acts_343 rfl rfl ld3 ?_
      refine v_bipush (v := nI 8) h 344 346 dL_acts_344 rfl (by decide) ?_
      refine v_iload (i := 12) h 346 348 dL_acts_346 rfl ld12 ?_
      refine v_imulN h 348 349 dL_acts_348 rfl ?_
      refine v_iconst (v := nI 3) h 349 350 dL_acts_349 rfl (by decide) ?_
      refine v_iaddN h 350 351 dL_acts_350 rfl ?_
      refine v_iconst (v := 0) h 351 352 dL_acts_351 rfl (by decide) ?_
      refine v_stQ h 352 353 t 3 dL_acts_352 rfl (by omega) (by omega) ?_
      refine v_aload_n (i := 3) h 353 354 dL_acts_353 rfl rfl ld3 ?_
      refine v_bipush (v := nI 8) h 354 356 dL_acts_354 rfl (by decide) ?_
      refine v_iload (i := 12) h 356 358 dL_acts_356 rfl ld12 ?_
      refine v_imulN h 358 359 dL_acts_358 rfl ?_
      refine v_iconst (v := nI 4) h 359 360 dL_acts_359 rfl (by decide) ?_
      refine v_iaddN h 360 361 dL_acts_360 rfl ?_
      refine v_iconst (v := (-1)) h 361 362 dL_acts_361 rfl (by decide) ?_
      refine v_stQ h 362 363 t 4 dL_acts_362 rfl (by omega) (by omega) ?_
      refine v_aload_n (i := 0) h 363 364 dL_acts_363 rfl rfl ld0 ?_
      refine v_iload (i := 12) h 364 366 dL_acts_364 rfl ld12 ?_
      refine v_callS1h h hZ 366 369 dL_acts_366 rfl cb_Lz_calls cs_Lz_calls lk_L_37 (rok (by decide) (by decide)) ⟨by decide, by decide⟩ (g_calls hD_lw (Cd.lw (fun w => c_callOff he hks hI0 ht hc ((hA.tm ht (by omega)).trans z4)))) rfl rfl (Nat.le_of_ble_eq_true rfl) (fun n366 hn366 => ?_)
      refine V.nx (k' := 0) (n' := 0) (w' := lw E (D + 141) (idleS (waitS R c) t) (dl E D (idleS (waitS S0 c) t) S1 (va_up Sv e (cpS (Sv e) S0 nc nt)) (nI (min 4 (ks + 1))) (nI ((e + 1) % 4)) 0 (fun _ => 0) (n366, F))) (by decide) (by decide) rfl ?_
      refine v_iload (i := 13) h 369 371 dL_acts_369 rfl ld13 ?_
      refine v_icmp_ne h 371 374 378 dL_acts_371 rfl (by decide) (fun h371 => absurd (congrArg nI (show c = c by omega)) h371) (fun h371 => ?_)
      refine v_iconst (v := 1) h 374 375 dL_acts_374 rfl (by decide) ?_
      refine v_goto h 375 379 dL_acts_375 (by decide) ?_
      exact v_zretz h 379 f dL_acts_379 rfl rfl (by decide) (by decide) rfl hn366 rfl

set_option maxRecDepth 100000 in
set_option maxHeartbeats 4000000 in
theorem a_team {E : EE} (hE : E.1.stackTraces = false) {D n : Nat} {S0 S1 R : St} {Sv : Nat → St} {ks e nc nt ne m v c0 : Nat} {F : Nat → Option va_E} (hR : Rl S0 R ks e nc nt ne m) (hv : v < 10000000) (hc0 : c0 = if nc = 0 then 0 else v % nc) : AC E D n S0 S1 Sv ks e R nc v c0 F 380 := by
  obtain ⟨hI, hJ, h8, hm, hA, he, hks⟩ := id hR
  have hnt := hI.n4
  have hn := hI.n14
  have hI0 : Inv S0 3 nc nt ne m := hA.inv hI
  have h0 : R 0 = nI 3 := hI.1.1.1
  have z0 : S0 0 = nI 3 := hI0.1.1.1
  by_cases h40 : nt = 4
  · refine ⟨S0, S1, Sv, ks, e, R, nc, nt, ne, m, hR, fun Γ z h hZ f => ?_⟩
    refine v_aload_n (i := 1) h 380 381 dL_acts_380 rfl rfl ld1 ?_
    refine v_bipush (v := nI 8) h 381 383 dL_acts_381 rfl (by decide) ?_
    refine v_ldG h 383 384 8 dL_acts_383 rfl (by omega) ?_
    try simp (disch := omega) only [upd_ne, upd_self]
    rw [hI.c8]
    refine v_iconst (v := 4) h 384 385 dL_acts_384 rfl (by decide) ?_
    refine v_icmp_ne h 385 388 406 dL_acts_385 rfl (by decide) (fun h385 => absurd (congrArg nI h40) h385) (fun h385 => ?_)
    refine v_aload_n (i := 0) h 388 389 dL_acts_388 rfl rfl ld0 ?_
    refine v_iconst (v := 0) h 389 390 dL_acts_389 rfl (by decide) ?_
    refine v_bipush (v := 31) h 390 392 dL_acts_390 rfl (by decide) ?_
    refine v_callS1h h hZ 392 395 dL_acts_392 rfl cb_L_addsTeam cs_L_addsTeam lk_L_41 (rok (by decide) (by decide)) ⟨by decide, by decide⟩ (t_addsTeam2 hD_lw (Cthr.lw (fun w => x_addTeam2 hE (by decide) (by rw [z0]; decide) (Or.inr (by decide))))) rfl rfl (Nat.le_of_ble_eq_true rfl) (fun n392 hn392 => ?_)
    refine V.nx (k' := 1) (n' := 6) (w' := lw E (D + 141) R (dl E D S0 S1 Sv (nI ks) (nI e) 0 (fun _ => 0) (n392, F))) (by decide) (by decide) rfl ?_
    refine v_ldc h 395 397 dL_acts_395 rfl kc_L_44 ?_
    refine v_icmp_ne h 397 400 404 dL_acts_397 rfl (by decide) (fun h397 => absurd (by decide) h397) (fun h397 => ?_)
    refine v_iconst (v := 1) h 400 401 dL_acts_400 rfl (by decide) ?_
    refine v_goto h 401 405 dL_acts_401 (by decide) ?_
    exact v_zretz h 405 f dL_acts_405 rfl rfl (by decide) (by decide) rfl hn392 rfl
  · obtain ⟨K, hK⟩ : ∃ K, K = v / 7 % (if v % 3 = 0 then 31 else 8) := ⟨_, rfl⟩
    have hK30 : K ≤ 30 := by
      by_cases q : v % 3 = 0
      · rw [if_pos q] at hK; omega
      · rw [if_neg q] at hK; omega
    have eR : upd (upd (upd (upd (zr R nt 8) (125 + 8 * nt + 0) (nI (v % 3))) (125 + 8 * nt + 1) (nI K)) (125 + 8 * nt + 4) (-1)) 8 (nI (nt + 1)) = standS (upd R 8 (nI (nt + 1))) nt (nI (v % 3)) (nI K) := by
      unfold standS idleS
      funext i
      by_cases q0 : i = 8
      · subst q0
        simp (disch := omega) only [upd_self, upd_ne, zr_in, zr_out]
      by_cases q1 : i = 125 + 8 * nt + 0
      · subst q1
        simp (disch := omega) only [upd_self, upd_ne, zr_in, zr_out]
      by_cases q2 : i = 125 + 8 * nt + 1
      · subst q2
        simp (disch := omega) only [upd_self, upd_ne, zr_in, zr_out]
      by_cases q3 : i = 125 + 8 * nt + 2
      · subst q3
        simp (disch := omega) only [upd_self, upd_ne, zr_in, zr_out]
      by_cases q4 : i = 125 + 8 * nt + 3
      · subst q4
        simp (disch := omega) only [upd_self, upd_ne, zr_in, zr_out]
      by_cases q5 : i = 125 + 8 * nt + 4
      · subst q5
        simp (disch := omega) only [upd_self, upd_ne, zr_in, zr_out]
      by_cases q6 : i = 125 + 8 * nt + 5
      · subst q6
        simp (disch := omega) only [upd_self, upd_ne, zr_in, zr_out]
      by_cases q7 : i = 125 + 8 * nt + 6
      · subst q7
        simp (disch := omega) only [upd_self, upd_ne, zr_in, zr_out]
      by_cases q8 : i = 125 + 8 * nt + 7
      · subst q8
        simp (disch := omega) only [upd_self, upd_ne, zr_in, zr_out]
      rw [upd_ne _ _ q0, upd_ne _ _ q5, upd_ne _ _ q2, upd_ne _ _ q1, zr_out (by omega)]
      simp (disch := omega) only [upd_ne]
    have q494 : standS (upd R 8 (nI (nt + 1))) nt (nI (v % 3)) (nI K) (125 + 8 * nt + 0) = nI (v % 3) := by unfold standS idleS; simp (disch := omega) only [upd_ne, upd_self]
    have q500 : standS (upd R 8 (nI (nt + 1))) nt (nI (v % 3)) (nI K) (125 + 8 * nt + 1) = nI K := by unfold standS idleS; simp (disch := omega) only [upd_ne, upd_self]
    have q507 : standS (upd R 8 (nI (nt + 1))) nt (nI (v % 3)) (nI K) 8 = nI (nt + 1) := by unfold standS idleS; simp (disch := omega) only [upd_ne, upd_self]
    refine ⟨standS (upd S0 8 (nI (nt + 1))) nt (nI (v % 3)) (nI K), S1, va_up Sv e (cpS (Sv e) S0 nc nt), min 4 (ks + 1), (e + 1) % 4, standS (upd R 8 (nI (nt + 1))) nt (nI (v % 3)) (nI K), nc, nt + 1, ne, m, ⟨inv_addT hI (by omega) (by omega) hK30, ⟨fun c hc => by rw [standS_ne (by omega), standS_ne (by omega), upd_ne _ _ (by omega), upd_ne _ _ (by omega)]; exact hJ.1 c hc, fun t ht => by
        by_cases q : t = nt
        · subst q
          refine Or.inl ?_
          unfold standS idleS
          simp (disch := omega) only [upd_ne, upd_self]
        · rw [standS_ne (by omega), standS_ne (by omega), upd_ne _ _ (by omega), upd_ne _ _ (by omega)]; exact hJ.2 t (by omega)⟩, h8, hm, hA.stand _ _ _, e4', ks4⟩, fun Γ z h hZ f => ?_⟩
    refine v_aload_n (i := 1) h 380 381 dL_acts_380 rfl rfl ld1 ?_
    refine v_bipush (v := nI 8) h 381 383 dL_acts_381 rfl (by decide) ?_
    refine v_ldG h 383 384 8 dL_acts_383 rfl (by omega) ?_
    try simp (disch := omega) only [upd_ne, upd_self]
    rw [hI.c8]
    refine v_iconst (v := 4) h 384 385 dL_acts_384 rfl (by decide) ?_
    refine v_icmp_ne h 385 388 406 dL_acts_385 rfl (by decide) (fun h385 => ?_) (fun h385 => absurd (nI_inj (b := 4) (by omega) (by omega) h385) h40)
    refine v_bipush (v := nI 8) h 406 408 dL_acts_406 rfl (by decide) ?_
    refine v_aload_n (i := 1) h 408 409 dL_acts_408 rfl rfl ld1 ?_
    refine v_bipush (v := nI 8) h 409 411 dL_acts_409 rfl (by decide) ?_
    refine v_ldG h 411 412 8 dL_acts_411 rfl (by omega) ?_
    try simp (disch := omega) only [upd_ne, upd_self]
    rw [hI.c8]
    refine v_imulN h 412 413 dL_acts_412 rfl ?_
    refine v_istore (i := 14) h 413 415 dL_acts_413 rfl (by decide) (so14 rfl) ?_
    refine v_iconst (v := 0) h 415 416 dL_acts_415 rfl (by decide) ?_
    refine v_istore (i := 15) h 416 418 dL_acts_416 rfl (by decide) (so15 rfl) ?_
    have loop418 : ∀ d j, j + d = 8 → V E Γ 0 0 418 [some (.ref D), some (.ref (D + 141)), some (.ref (D + 141 + 1)), some (.ref (D + 141 + 2)), some (.ref (D + 141 + 3)), some (.int z), some (.int (nI v)), some (.int (nI nc)), some (.int (nI c0)), none, none, none, none, none, some (.int (nI (8 * nt))), some (.int (nI j)), none, none] [] (lw E (D + 141) (zr R nt j) (dl E D S0 S1 Sv (nI ks) (nI e) 0 (fun _ => 0) (n, F))) := by
      intro d
      induction d with
      | zero =>
        intro j hj
        obtain rfl : j = 8 := by omega
        refine v_iload (i := 15) h 418 420 dL_acts_418 rfl ld15 ?_
        refine v_bipush (v := nI 8) h 420 422 dL_acts_420 rfl (by decide) ?_
        refine v_icmp_ge h 422 425 439 dL_acts_422 rfl (by decide) (fun h422 => ?_) (fun h422 => absurd (nI_le (a := 8) (b := 8) (by omega) (by omega)) h422)
        refine v_aload_n (i := 3) h 439 440 dL_acts_439 rfl rfl ld3 ?_
        refine v_iload (i := 14) h 440 442 dL_acts_440 rfl ld14 ?_
        refine v_iload (i := 6) h 442 444 dL_acts_442 rfl ld6 ?_
        refine v_aload_n (i := 1) h 444 445 dL_acts_444 rfl rfl ld1 ?_
        refine v_iconst (v := nI 0) h 445 446 dL_acts_445 rfl (by decide) ?_
        refine v_ldG h 446 447 0 dL_acts_446 rfl (by omega) ?_
        try simp (disch := omega) only [upd_ne, upd_self]
        rw [zr_out (by omega), h0]
        refine v_iremN h 447 448 dL_acts_447 rfl (by omega) (by omega) (by omega) ?_
        refine v_stQ0 h 448 449 nt dL_acts_448 rfl (by omega) ?_
        refine v_aload_n (i := 3) h 449 450 dL_acts_449 rfl rfl ld3 ?_
        refine v_iload (i := 14) h 450 452 dL_acts_450 rfl ld14 ?_
        refine v_iconst (v := nI 1) h 452 453 dL_acts_452 rfl (by decide) ?_
        refine v_iaddN h 453 454 dL_acts_453 rfl ?_
        refine v_iload (i := 6) h 454 456 dL_acts_454 rfl ld6 ?_
        refine v_bipush (v := nI 7) h 456 458 dL_acts_456 rfl (by decide) ?_
        refine v_idivN h 458 459 dL_acts_458 rfl (by omega) (by omega) (by omega) ?_
        refine v_iload (i := 6) h 459 461 dL_acts_459 rfl ld6 ?_
        refine v_iconst (v := nI 3) h 461 462 dL_acts_461 rfl (by decide) ?_
        refine v_iremN h 462 463 dL_acts_462 rfl (by omega) (by omega) (by omega) ?_
        by_cases q3 : v % 3 = 0
        · rw [if_pos q3] at hK
          refine v_if_ne h 463 466 471 dL_acts_463 rfl (by decide) (fun h463 => absurd (congrArg nI q3) h463) (fun h463 => ?_)
          refine v_bipush (v := nI 31) h 466 468 dL_acts_466 rfl (by decide) ?_
          refine v_goto h 468 473 dL_acts_468 (by decide) ?_
          refine v_iremN h 473 474 dL_acts_473 rfl (by omega) (by omega) (by omega) ?_
          rw [← hK]
          refine v_stQ h 474 475 nt 1 dL_acts_474 rfl (by omega) (by omega) ?_
          refine v_aload_n (i := 3) h 475 476 dL_acts_475 rfl rfl ld3 ?_
          refine v_iload (i := 14) h 476 478 dL_acts_476 rfl ld14 ?_
          refine v_iconst (v := nI 4) h 478 479 dL_acts_478 rfl (by decide) ?_
          refine v_iaddN h 479 480 dL_acts_479 rfl ?_
          refine v_iconst (v := (-1)) h 480 481 dL_acts_480 rfl (by decide) ?_
          refine v_stQ h 481 482 nt 4 dL_acts_481 rfl (by omega) (by omega) ?_
          refine v_aload_n (i := 1) h 482 483 dL_acts_482 rfl rfl ld1 ?_
          refine v_bipush (v := nI 8) h 483 485 dL_acts_483 rfl (by decide) ?_
          refine v_dup2 h 485 486 dL_acts_485 rfl rfl rfl ?_
          refine v_ldG h 486 487 8 dL_acts_486 rfl (by omega) ?_
          try simp (disch := omega) only [upd_ne, upd_self]
          rw [zr_out (by omega), hI.c8]
          refine v_iconst (v := nI 1) h 487 488 dL_acts_487 rfl (by decide) ?_
          refine v_iaddN h 488 489 dL_acts_488 rfl ?_
          refine v_stG h 489 490 8 dL_acts_489 rfl (by omega) ?_
          rw [eR]
          refine v_aload_n (i := 0) h 490 491 dL_acts_490 rfl rfl ld0 ?_
          refine v_aload_n (i := 3) h 491 492 dL_acts_491 rfl rfl ld3 ?_
          refine v_iload (i := 14) h 492 494 dL_acts_492 rfl ld14 ?_
          refine v_ldQ0 h 494 495 nt dL_acts_494 rfl (by omega) ?_
          try simp (disch := omega) only [upd_ne, upd_self]
          rw [q494]
          refine v_aload_n (i := 3) h 495 496 dL_acts_495 rfl rfl ld3 ?_
          refine v_iload (i := 14) h 496 498 dL_acts_496 rfl ld14 ?_
          refine v_iconst (v := nI 1) h 498 499 dL_acts_498 rfl (by decide) ?_
          refine v_iaddN h 499 500 dL_acts_499 rfl ?_
          refine v_ldQ h 500 501 nt 1 dL_acts_500 rfl (by omega) (by omega) ?_
          try simp (disch := omega) only [upd_ne, upd_self]
          rw [q500]
          refine v_callS1h h hZ 501 504 dL_acts_501 rfl cb_Lz_addsTeam cs_Lz_addsTeam lk_L_41 (rok (by decide) (by decide)) ⟨by decide, by decide⟩ (g_addsTeam hD_lw (Cd.lw (fun w => c_addTeam he hks hI0 (nI_pos (by omega)) (by rw [z0]; exact nI_ge (by omega) (by omega)) (nI_pos (by omega)) (nI_nlt (a := 30) (by omega) (by omega)) (by omega)))) rfl rfl (Nat.le_of_ble_eq_true rfl) (fun n501 hn501 => ?_)
          refine V.nx (k' := 0) (n' := 0) (w' := lw E (D + 141) (standS (upd R 8 (nI (nt + 1))) nt (nI (v % 3)) (nI K)) (dl E D (standS (upd S0 8 (nI (nt + 1))) nt (nI (v % 3)) (nI K)) S1 (va_up Sv e (cpS (Sv e) S0 nc nt)) (nI (min 4 (ks + 1))) (nI ((e + 1) % 4)) 0 (fun _ => 0) (n501, F))) (by decide) (by decide) rfl ?_
          refine v_aload_n (i := 1) h 504 505 dL_acts_504 rfl rfl ld1 ?_
          refine v_bipush (v := nI 8) h 505 507 dL_acts_505 rfl (by decide) ?_
          refine v_ldG h 507 508 8 dL_acts_507 rfl (by omega) ?_
          try simp (disch := omega) only [upd_ne, upd_self]
          rw [q507]
          refine v_iconst (v := 1) h 508 509 dL_acts_508 rfl (by decide) ?_
          refine v_isub h 509 510 dL_acts_509 rfl ?_
          rw [nI_pred]
          refine v_icmp_ne h 510 513 517 dL_acts_510 rfl (by decide) (fun h510 => absurd (congrArg nI (show nt = nt by omega)) h510) (fun h510 => ?_)
          refine v_iconst (v := 1) h 513 514 dL_acts_513 rfl (by decide) ?_
          refine v_goto h 514 518 dL_acts_514 (by decide) ?_
          exact v_zretz h 518 f dL_acts_518 rfl rfl (by decide) (by decide) rfl hn501 rfl
        · rw [if_neg q3] at hK
          refine v_if_ne h 463 466 471 dL_acts_463 rfl (by decide) (fun h463 => ?_) (fun h463 => absurd (nI_inj (b := 0) (by omega) (by omega) h463) q3)
          refine v_bipush (v := nI 8) h 471 473 dL_acts_471 rfl (by decide) ?_
          refine v_iremN h 473 474 dL_acts_473 rfl (by omega) (by omega) (by omega) ?_
          rw [← hK]
          refine v_stQ h 474 475 nt 1 dL_acts_474 rfl (by omega) (by omega) ?_
          refine v_aload_n (i := 3) h 475 476 dL_acts_475 rfl rfl ld3 ?_
          refine v_iload (i := 14) h 476 478 dL_acts_476 rfl ld14 ?_
          refine v_iconst (v := nI 4) h 478 479 dL_acts_478 rfl (by decide) ?_
          refine v_iaddN h 479 480 dL_acts_479 rfl ?_
          refine v_iconst (v := (-1)) h 480 481 dL_acts_480 rfl (by decide) ?_
          refine v_stQ h 481 482 nt 4 dL_acts_481 rfl (by omega) (by omega) ?_
          refine v_aload_n (i := 1) h 482 483 dL_acts_482 rfl rfl ld1 ?_
          refine v_bipush (v := nI 8) h 483 485 dL_acts_483 rfl (by decide) ?_
          refine v_dup2 h 485 486 dL_acts_485 rfl rfl rfl ?_
          refine v_ldG h 486 487 8 dL_acts_486 rfl (by omega) ?_
          try simp (disch := omega) only [upd_ne, upd_self]
          rw [zr_out (by omega), hI.c8]
          refine v_iconst (v := nI 1) h 487 488 dL_acts_487 rfl (by decide) ?_
          refine v_iaddN h 488 489 dL_acts_488 rfl ?_
          refine v_stG h 489 490 8 dL_acts_489 rfl (by omega) ?_
          rw [eR]
          refine v_aload_n (i := 0) h 490 491 dL_acts_490 rfl rfl ld0 ?_
          refine v_aload_n (i := 3) h 491 492 dL_acts_491 rfl rfl ld3 ?_
          refine v_iload (i := 14) h 492 494 dL_acts_492 rfl ld14 ?_
          refine v_ldQ0 h 494 495 nt dL_acts_494 rfl (by omega) ?_
          try simp (disch := omega) only [upd_ne, upd_self]
          rw [q494]
          refine v_aload_n (i := 3) h 495 496 dL_acts_495 rfl rfl ld3 ?_
          refine v_iload (i := 14) h 496 498 dL_acts_496 rfl ld14 ?_
          refine v_iconst (v := nI 1) h 498 499 dL_acts_498 rfl (by decide) ?_
          refine v_iaddN h 499 500 dL_acts_499 rfl ?_
          refine v_ldQ h 500 501 nt 1 dL_acts_500 rfl (by omega) (by omega) ?_
          try simp (disch := omega) only [upd_ne, upd_self]
          rw [q500]
          refine v_callS1h h hZ 501 504 dL_acts_501 rfl cb_Lz_addsTeam cs_Lz_addsTeam lk_L_41 (rok (by decide) (by decide)) ⟨by decide, by decide⟩ (g_addsTeam hD_lw (Cd.lw (fun w => c_addTeam he hks hI0 (nI_pos (by omega)) (by rw [z0]; exact nI_ge (by omega) (by omega)) (nI_pos (by omega)) (nI_nlt (a := 30) (by omega) (by omega)) (by omega)))) rfl rfl (Nat.le_of_ble_eq_true rfl) (fun n501 hn501 => ?_)
          refine V.nx (k' := 0) (n' := 0) (w' := lw E (D + 141) (standS (upd R 8 (nI (nt + 1))) nt (nI (v % 3)) (nI K)) (dl E D (standS (upd S0 8 (nI (nt + 1))) nt (nI (v % 3)) (nI K)) S1 (va_up Sv e (cpS (Sv e) S0 nc nt)) (nI (min 4 (ks + 1))) (nI ((e + 1) % 4)) 0 (fun _ => 0) (n501, F))) (by decide) (by decide) rfl ?_
          refine v_aload_n (i := 1) h 504 505 dL_acts_504 rfl rfl ld1 ?_
          refine v_bipush (v := nI 8) h 505 507 dL_acts_505 rfl (by decide) ?_
          refine v_ldG h 507 508 8 dL_acts_507 rfl (by omega) ?_
          try simp (disch := omega) only [upd_ne, upd_self]
          rw [q507]
          refine v_iconst (v := 1) h 508 509 dL_acts_508 rfl (by decide) ?_
          refine v_isub h 509 510 dL_acts_509 rfl ?_
          rw [nI_pred]
          refine v_icmp_ne h 510 513 517 dL_acts_510 rfl (by decide) (fun h510 => absurd (congrArg nI (show nt = nt by omega)) h510) (fun h510 => ?_)
          refine v_iconst (v := 1) h 513 514 dL_acts_513 rfl (by decide) ?_
          refine v_goto h 514 518 dL_acts_514 (by decide) ?_
          exact v_zretz h 518 f dL_acts_518 rfl rfl (by decide) (by decide) rfl hn501 rfl
      | succ d ih =>
        intro j hj
        refine v_iload (i := 15) h 418 420 dL_acts_418 rfl ld15 ?_
        refine v_bipush (v := nI 8) h 420 422 dL_acts_420 rfl (by decide) ?_
        refine v_icmp_ge h 422 425 439 dL_acts_422 rfl (by decide) (fun h422 => absurd h422 (nI_ge (a := j) (b := 8) (by omega) (by omega))) (fun h422 => ?_)
        refine v_aload_n (i := 3) h 425 426 dL_acts_425 rfl rfl ld3 ?_
        refine v_iload (i := 14) h 426 428 dL_acts_426 rfl ld14 ?_
        refine v_iload (i := 15) h 428 430 dL_acts_428 rfl ld15 ?_
        refine v_iaddN h 430 431 dL_acts_430 rfl ?_
        refine v_iconst (v := 0) h 431 432 dL_acts_431 rfl (by decide) ?_
        refine v_stQ h 432 433 nt j dL_acts_432 rfl (by omega) (by omega) ?_
        refine v_iinc (i := 15) h 433 436 dL_acts_433 rfl ld15 (by first | exact iinc1 _ | rfl) (by decide) (so15 rfl) ?_
        refine v_goto h 436 418 dL_acts_436 (by decide) ?_
        have q := ih (j + 1) (by omega)
        rw [← zr_s] at q
        exact V.weakT q (And.intro rfl (And.intro rfl (And.intro rfl (And.intro rfl (And.intro rfl (And.intro rfl (And.intro rfl (And.intro rfl (And.intro rfl (And.intro rfl (And.intro rfl trivial)))))))))))
    refine V.world (w' := lw E (D + 141) (zr R nt 0) (dl E D S0 S1 Sv (nI ks) (nI e) 0 (fun _ => 0) (n, F))) (by rw [zr_0]) ?_
    exact V.weakT (loop418 8 0 (by omega)) (And.intro rfl (And.intro rfl (And.intro rfl (And.intro rfl (And.intro rfl (And.intro rfl (And.intro rfl (And.intro rfl (And.intro rfl (And.intro rfl (And.intro rfl trivial)))))))))))

