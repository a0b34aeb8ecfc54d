/-! the law: its loop, its end, its beginning -/
def PLaw : PO := fun r _ => r = .inl (some (.int 1))
theorem z_addFormat (τ : ST) : o_addFormat τ (-1) = (1, nI 0, τ) := by
  unfold o_addFormat
  rw [if_neg (by decide)]
theorem z_setRisk (τ : ST) : o_setRisk τ (nI 8) (nI 101) = (1, nI 0, τ) := by
  unfold o_setRisk
  rw [if_neg (by decide)]
theorem z_addConversion (τ : ST) : o_addConversion τ (nI 0) (nI 0) (nI 0) = (1, nI 0, τ) := by
  unfold o_addConversion
  rw [if_neg (fun z => z.2 rfl)]
theorem z_deposit (τ : ST) : o_deposit τ (nI 8) (-1) (nI 1) = (1, nI 0, τ) := by
  unfold o_deposit
  rw [if_neg (by decide)]
theorem z_revise (τ : ST) : o_revise τ (nI 10) (-1) (decide (nI 0 = nI 1)) = (1, nI 0, τ) := by
  unfold o_revise
  rw [if_neg (by decide)]
theorem z_purge {τ : ST} (h6 : τ.ob ≤ 6) : o_purge τ (nI 10) (nI 0) = (1, nI 0, τ) := by
  unfold o_purge isV
  rw [inR_no (by omega) (by decide) (by omega), Bool.false_and, if_neg (by decide)]
theorem z_damage (τ : ST) : o_damage τ (nI 4) (nI 100) (nI 1) = (1, nI 0, τ) := by
  unfold o_damage
  rw [if_neg (by decide)]
theorem z_toggleSite (τ : ST) : o_toggleSite τ (-1) = (1, nI 0, τ) := by
  unfold o_toggleSite
  rw [if_neg (by decide)]
theorem z_audit (τ : ST) : o_audit τ (nI 0) = (1, nI 0, τ) := by
  unfold o_audit
  rw [if_neg (by decide)]
section LAW
variable (g : GG) {A0 : Nat → Nat → Nat}
/-- the law's end -/
theorem law_end {B : Nat} {σ : ST} {ar : Nat → Nat → Int32} {dm tg : Bool} {M : Mem} (hI : INV B σ) (hB : 2000000 ≤ B ∧ B ≤ 3000000) (hR : LR σ ar dm tg) (h : WA g A0 σ ar M) {x8 : Int32} : tri g mL_law 2300 14300 PLaw M 160 [(0, .ref g.b), (1, .ref (A0 0 0)), (2, .ref (A0 20 0)), (3, .ref (A0 20 1)), (4, .ref (A0 20 2)), (5, .ref (A0 20 3)), (6, .ref (A0 20 4)), (7, .int (nI 1)), (8, .int x8)] [] := by
  have h6 := hR.1
  refine z_iload dL_law_160 rfl ?_
  refine z_if_eq (tgt := 304) dL_law_162 (by decide) (fun h162 => absurd h162 (by decide)) (fun h162 => ?_)
  refine z_aload_n dL_law_165 rfl rfl ?_
  refine z_ic ki_0 dL_law_166 ?_
  refine z_ic ki_m1 dL_law_167 ?_
  refine z_ic ki_0 dL_law_168 ?_
  refine z_ic ki_0 dL_law_169 ?_
  refine z_isXQ (dd := mL_formats) dL_law_170 cw_RL_96 rfl ⟨by decide, by decide⟩ (n := 5) (by decide +kernel) (h_addFormat g hI h (-1) (nI 0) (nI 0)) ⟨⟨by decide, by decide⟩, (by first | exact Nat.zero_le _ | decide | omega), (by first | exact Nat.zero_le _ | decide | omega)⟩ rfl rfl (Nat.le_of_ble_eq_true rfl) (fun M170 hQ170 => ?_)
  have e170 : tl (o_addFormat σ (-1)) (-20) (-10) (-10) = -20 := tl_1 (by rw [z_addFormat σ])
  obtain ⟨τ0, i0, s0, w0⟩ := hQ170
  rw [z_addFormat σ] at s0
  have r0 := LR_sim hR s0
  refine z_bi kb_m20 dL_law_173 ?_
  refine z_icmp_ne (tgt := 304) dL_law_175 (by decide) (fun h175 => absurd h175 (fun q => q e170)) (fun h175 => ?_)
  refine z_aload_n dL_law_178 rfl rfl ?_
  refine z_ic ki_1 dL_law_179 ?_
  refine z_bi kb_8 dL_law_180 ?_
  refine z_bi kb_101 dL_law_182 ?_
  refine z_ic ki_0 dL_law_184 ?_
  refine z_isXQ (dd := mL_formats) dL_law_185 cw_RL_96 rfl ⟨by decide, by decide⟩ (n := 5) (by decide +kernel) (h_setRisk g i0 w0 (nI 8) (nI 101) (nI 0)) ⟨⟨by decide, by decide⟩, (by first | exact Nat.zero_le _ | decide | omega), (by first | exact Nat.zero_le _ | decide | omega)⟩ rfl rfl (Nat.le_of_ble_eq_true rfl) (fun M185 hQ185 => ?_)
  have e185 : tl (o_setRisk τ0 (nI 8) (nI 101)) (-20) (-30) (-30) = -20 := tl_1 (by rw [z_setRisk τ0])
  obtain ⟨τ1, i1, s1, w1⟩ := hQ185
  rw [z_setRisk τ0] at s1
  have r1 := LR_sim r0 s1
  refine z_bi kb_m20 dL_law_188 ?_
  refine z_icmp_ne (tgt := 304) dL_law_190 (by decide) (fun h190 => absurd h190 (fun q => q e185)) (fun h190 => ?_)
  refine z_aload_n dL_law_193 rfl rfl ?_
  refine z_ic ki_2 dL_law_194 ?_
  refine z_ic ki_0 dL_law_195 ?_
  refine z_ic ki_0 dL_law_196 ?_
  refine z_ic ki_0 dL_law_197 ?_
  refine z_isXQ (dd := mL_formats) dL_law_198 cw_RL_96 rfl ⟨by decide, by decide⟩ (n := 5) (by decide +kernel) (h_addConversion g i1 w1 (nI 0) (nI 0) (nI 0)) ⟨⟨by decide, by decide⟩, (by first | exact Nat.zero_le _ | decide | omega), (by first | exact Nat.zero_le _ | decide | omega)⟩ rfl rfl (Nat.le_of_ble_eq_true rfl) (fun M198 hQ198 => ?_)
  have e198 : tl (o_addConversion τ1 (nI 0) (nI 0) (nI 0)) (-20) (-30) (-30) = -20 := tl_1 (by rw [z_addConversion τ1])
  obtain ⟨τ2, i2, s2, w2⟩ := hQ198
  rw [z_addConversion τ1] at s2
  have r2 := LR_sim r1 s2
  refine z_bi kb_m20 dL_law_201 ?_
  refine z_icmp_ne (tgt := 304) dL_law_203 (by decide) (fun h203 => absurd h203 (fun q => q e198)) (fun h203 => ?_)
  refine z_aload_n dL_law_206 rfl rfl ?_
  refine z_ic ki_0 dL_law_207 ?_
  refine z_bi kb_8 dL_law_208 ?_
  refine z_ic ki_m1 dL_law_210 ?_
  refine z_ic ki_1 dL_law_211 ?_
  refine z_isXQ (dd := mL_versions) dL_law_212 cw_RL_90 rfl ⟨by decide, by decide⟩ (n := 5) (by decide +kernel) (h_deposit g i2 (by omega) w2 (nI 8) (-1) (nI 1)) ⟨⟨by decide, by decide⟩, (by first | exact Nat.zero_le _ | decide | omega), (by first | exact Nat.zero_le _ | decide | omega)⟩ rfl rfl (Nat.le_of_ble_eq_true rfl) (fun M212 hQ212 => ?_)
  have e212 : tl (o_deposit τ2 (nI 8) (-1) (nI 1)) (-20) (-30) (-10) = -20 := tl_1 (by rw [z_deposit τ2])
  obtain ⟨τ3, i3, s3, w3⟩ := hQ212
  rw [z_deposit τ2] at s3
  have r3 := LR_sim r2 s3
  refine z_bi kb_m20 dL_law_215 ?_
  refine z_icmp_ne (tgt := 304) dL_law_217 (by decide) (fun h217 => absurd h217 (fun q => q e212)) (fun h217 => ?_)
  refine z_aload_n dL_law_220 rfl rfl ?_
  refine z_ic ki_1 dL_law_221 ?_
  refine z_bi kb_10 dL_law_222 ?_
  refine z_ic ki_m1 dL_law_224 ?_
  refine z_ic ki_0 dL_law_225 ?_
  refine z_isXQ (dd := mL_versions) dL_law_226 cw_RL_90 rfl ⟨by decide, by decide⟩ (n := 5) (by decide +kernel) (h_revise g i3 (by omega) w3 (nI 10) (-1) (nI 0)) ⟨⟨by decide, by decide⟩, (by first | exact Nat.zero_le _ | decide | omega), (by first | exact Nat.zero_le _ | decide | omega)⟩ rfl rfl (Nat.le_of_ble_eq_true rfl) (fun M226 hQ226 => ?_)
  have e226 : tl (o_revise τ3 (nI 10) (-1) (decide (nI 0 = nI 1))) (-20) (-30) (-10) = -20 := tl_1 (by rw [z_revise τ3])
  obtain ⟨τ4, i4, s4, w4⟩ := hQ226
  rw [z_revise τ3] at s4
  have r4 := LR_sim r3 s4
  refine z_bi kb_m20 dL_law_229 ?_
  refine z_icmp_ne (tgt := 304) dL_law_231 (by decide) (fun h231 => absurd h231 (fun q => q e226)) (fun h231 => ?_)
  refine z_aload_n dL_law_234 rfl rfl ?_
  refine z_ic ki_3 dL_law_235 ?_
  refine z_bi kb_10 dL_law_236 ?_
  refine z_ic ki_0 dL_law_238 ?_
  refine z_ic ki_0 dL_law_239 ?_
  refine z_isXQ (dd := mL_versions) dL_law_240 cw_RL_90 rfl ⟨by decide, by decide⟩ (n := 5) (by decide +kernel) (h_purge g i4 w4 (nI 10) (nI 0) (nI 0)) ⟨⟨by decide, by decide⟩, (by first | exact Nat.zero_le _ | decide | omega), (by first | exact Nat.zero_le _ | decide | omega)⟩ rfl rfl (Nat.le_of_ble_eq_true rfl) (fun M240 hQ240 => ?_)
  have e240 : tl (o_purge τ4 (nI 10) (nI 0)) (-30) (-10) (-10) = -30 := tl_1 (by rw [z_purge r4.1])
  obtain ⟨τ5, i5, s5, w5⟩ := hQ240
  rw [z_purge r4.1] at s5
  have r5 := LR_sim r4 s5
  refine z_bi kb_m30 dL_law_243 ?_
  refine z_icmp_ne (tgt := 304) dL_law_245 (by decide) (fun h245 => absurd h245 (fun q => q e240)) (fun h245 => ?_)
  refine z_aload_n dL_law_248 rfl rfl ?_
  refine z_ic ki_2 dL_law_249 ?_
  refine z_ic ki_4 dL_law_250 ?_
  refine z_bi kb_100 dL_law_251 ?_
  refine z_ic ki_1 dL_law_253 ?_
  refine z_isXQ (dd := mL_copies) dL_law_254 cw_RL_74 rfl ⟨by decide, by decide⟩ (n := 5) (by decide +kernel) (h_damage g i5 (by omega) w5 (nI 4) (nI 100) (nI 1)) ⟨⟨by decide, by decide⟩, (by first | exact Nat.zero_le _ | decide | omega), (by first | exact Nat.zero_le _ | decide | omega)⟩ rfl rfl (Nat.le_of_ble_eq_true rfl) (fun M254 hQ254 => ?_)
  have e254 : tl (o_damage τ5 (nI 4) (nI 100) (nI 1)) (-20) (-30) (-30) = -20 := tl_1 (by rw [z_damage τ5])
  obtain ⟨τ6, i6, s6, w6⟩ := hQ254
  rw [z_damage τ5] at s6
  have r6 := LR_sim r5 s6
  refine z_bi kb_m20 dL_law_257 ?_
  refine z_icmp_ne (tgt := 304) dL_law_259 (by decide) (fun h259 => absurd h259 (fun q => q e254)) (fun h259 => ?_)
  refine z_aload_n dL_law_262 rfl rfl ?_
  refine z_ic ki_3 dL_law_263 ?_
  refine z_ic ki_m1 dL_law_264 ?_
  refine z_ic ki_0 dL_law_265 ?_
  refine z_ic ki_0 dL_law_266 ?_
  refine z_isXQ (dd := mL_copies) dL_law_267 cw_RL_74 rfl ⟨by decide, by decide⟩ (n := 5) (by decide +kernel) (h_toggleSite g i6 w6 (-1) (nI 0) (nI 0)) ⟨⟨by decide, by decide⟩, (by first | exact Nat.zero_le _ | decide | omega), (by first | exact Nat.zero_le _ | decide | omega)⟩ rfl rfl (Nat.le_of_ble_eq_true rfl) (fun M267 hQ267 => ?_)
  have e267 : tl (o_toggleSite τ6 (-1)) (-20) (-20) (-20) = -20 := tl_1 (by rw [z_toggleSite τ6])
  obtain ⟨τ7, i7, s7, w7⟩ := hQ267
  rw [z_toggleSite τ6] at s7
  have r7 := LR_sim r6 s7
  refine z_bi kb_m20 dL_law_270 ?_
  refine z_icmp_ne (tgt := 304) dL_law_272 (by decide) (fun h272 => absurd h272 (fun q => q e267)) (fun h272 => ?_)
  refine z_aload_n dL_law_275 rfl rfl ?_
  refine z_ic ki_4 dL_law_276 ?_
  refine z_ic ki_0 dL_law_277 ?_
  refine z_ic ki_0 dL_law_278 ?_
  refine z_ic ki_0 dL_law_279 ?_
  refine z_isXQ (dd := mL_copies) dL_law_280 cw_RL_74 rfl ⟨by decide, by decide⟩ (n := 5) (by decide +kernel) (h_audit g i7 (by omega) w7 (nI 0) (nI 0) (nI 0)) ⟨⟨by decide, by decide⟩, (by first | exact Nat.zero_le _ | decide | omega), (by first | exact Nat.zero_le _ | decide | omega)⟩ rfl rfl (Nat.le_of_ble_eq_true rfl) (fun M280 hQ280 => ?_)
  have e280 : tl (o_audit τ7 (nI 0)) (-20) (-10) (-10) = -20 := tl_1 (by rw [z_audit τ7])
  obtain ⟨τ8, i8, s8, w8⟩ := hQ280
  rw [z_audit τ7] at s8
  have r8 := LR_sim r7 s8
  refine z_bi kb_m20 dL_law_283 ?_
  refine z_icmp_ne (tgt := 304) dL_law_285 (by decide) (fun h285 => absurd h285 (fun q => q e280)) (fun h285 => ?_)
  refine z_aload_n dL_law_288 rfl rfl ?_
  refine z_aload_n dL_law_289 rfl rfl ?_
  refine z_aload dL_law_290 rfl rfl ?_
  refine z_aload dL_law_292 rfl rfl ?_
  refine z_isQ dL_law_294 cs_RL_133 (c_L_areWays g i8 r8 w8) ⟨⟨by decide, by decide⟩, (by first | exact Nat.zero_le _ | decide | omega), (by first | exact Nat.zero_le _ | decide | omega)⟩ rfl rfl (Nat.le_of_ble_eq_true rfl) (fun M294 hQ294 => ?_)
  refine z_if_eq (tgt := 304) dL_law_297 (by decide) (fun h297 => absurd h297 (by decide)) (fun h297 => ?_)
  refine z_ic ki_1 dL_law_300 ?_
  refine z_goto (tgt := 305) dL_law_301 (by decide) ?_
  refine z_ireturn dL_law_305 rfl (by first | rfl | exact bI_nar _) ?_
  exact rfl
theorem law_loop (hL : g.L ≤ 2048) : ∀ (n k : Nat), k + n = 64 → ∀ (σ : ST) (ar : Nat → Nat → Int32) (dm tg : Bool) (M : Mem), INV (2000000 + 1000 * k) σ → PI σ dm tg → LR σ ar dm tg → LE σ ar 1000 → WA g A0 σ ar M → tri g mL_law (2800 * n + 2300) (17000 * n + 14300) PLaw M 73 [(0, .ref g.b), (1, .ref (A0 0 0)), (2, .ref (A0 20 0)), (3, .ref (A0 20 1)), (4, .ref (A0 20 2)), (5, .ref (A0 20 3)), (6, .ref (A0 20 4)), (7, .int (nI 1)), (8, .int (nI k))] [] := by
  intro n
  induction n with
  | zero =>
    intro k hk σ ar dm tg M hI hP hR hE hw
    have hk64 : k = 64 := by omega
    refine z_iload dL_law_73 rfl ?_
    refine z_bi kb_64 dL_law_75 ?_
    refine z_icmp_ge (tgt := 160) dL_law_77 (by decide) (fun h77 => ?_) (fun h77 => absurd (nI_le (by omega) (by omega)) h77)
    exact (law_end g hI (by omega) hR hw).wk (by omega) (by omega)
  | succ n ih =>
    intro k hk σ ar dm tg M hI hP hR hE hw
    have e5 : nI k - nI k / nI 5 * nI 5 = nI (k % 5) := pk_rem (by omega) (by decide) (by decide)
    by_cases h4 : k % 5 < 4
    · skip
      refine z_iload dL_law_73 rfl ?_
      refine z_bi kb_64 dL_law_75 ?_
      refine z_icmp_ge (tgt := 160) dL_law_77 (by decide) (fun h77 => absurd h77 (nI_ge (by omega) (by decide))) (fun h77 => ?_)
      refine z_iload dL_law_80 rfl ?_
      refine z_if_eq (tgt := 160) dL_law_82 (by decide) (fun h82 => absurd h82 (by decide)) (fun h82 => ?_)
      refine z_aload_n dL_law_85 rfl rfl ?_
      refine z_aload_n dL_law_86 rfl rfl ?_
      refine z_ic ki_4 dL_law_87 ?_
      refine z_iload dL_law_88 rfl ?_
      refine z_imul dL_law_90 ?_
      rw [pk_mul]
      refine z_aload_n dL_law_91 rfl rfl ?_
      refine z_aload_n dL_law_92 rfl rfl ?_
      refine z_aload dL_law_93 rfl rfl ?_
      refine z_aload dL_law_95 rfl rfl ?_
      refine z_aload dL_law_97 rfl rfl ?_
      refine z_isQ dL_law_99 cs_RL_137 (c_L_isDone g hL hI (by omega) hP hR hE hw (p := 4 * k) (by omega)) ⟨⟨by decide, by decide⟩, (by first | exact Nat.zero_le _ | decide | omega), (by first | exact Nat.zero_le _ | decide | omega)⟩ rfl rfl (Nat.le_of_ble_eq_true rfl) (fun M99 hQ99 => ?_)
      obtain ⟨τ, ar2, dm2, tg2, i2, p2, r2, l2, w2⟩ := hQ99
      refine z_if_eq (tgt := 151) dL_law_102 (by decide) (fun h102 => absurd h102 (by decide)) (fun h102 => ?_)
      refine z_aload_n dL_law_105 rfl rfl ?_
      refine z_aload dL_law_106 rfl rfl ?_
      refine z_isQ dL_law_108 cs_RL_129 (c_L_areUnits g i2 (by omega) p2 r2 w2) ⟨⟨by decide, by decide⟩, (by first | exact Nat.zero_le _ | decide | omega), (by first | exact Nat.zero_le _ | decide | omega)⟩ rfl rfl (Nat.le_of_ble_eq_true rfl) (fun M108 hQ108 => ?_)
      refine z_if_eq (tgt := 151) dL_law_111 (by decide) (fun h111 => absurd h111 (by decide)) (fun h111 => ?_)
      refine z_aload_n dL_law_114 rfl rfl ?_
      refine z_aload_n dL_law_115 rfl rfl ?_
      refine z_aload_n dL_law_116 rfl rfl ?_
      refine z_aload dL_law_117 rfl rfl ?_
      refine z_aload dL_law_119 rfl rfl ?_
      refine z_isQ dL_law_121 cs_RL_141 (c_L_areObjects g i2 p2 r2 hQ108) ⟨⟨by decide, by decide⟩, (by first | exact Nat.zero_le _ | decide | omega), (by first | exact Nat.zero_le _ | decide | omega)⟩ rfl rfl (Nat.le_of_ble_eq_true rfl) (fun M121 hQ121 => ?_)
      refine z_if_eq (tgt := 151) dL_law_124 (by decide) (fun h124 => absurd h124 (by decide)) (fun h124 => ?_)
      refine z_iload dL_law_127 rfl ?_
      refine z_ic ki_5 dL_law_129 ?_
      refine z_irem dL_law_130 (by decide) ?_
      rw [e5]
      refine z_ic ki_4 dL_law_131 ?_
      refine z_icmp_lt (tgt := 147) dL_law_132 (by decide) (fun h132 => ?_) (fun h132 => absurd (nI_lt h4 (by decide)) h132)
      refine z_ic ki_1 dL_law_147 ?_
      refine z_goto (tgt := 152) dL_law_148 (by decide) ?_
      refine z_istore dL_law_152 (by decide) ?_
      refine z_inc ki_1 dL_law_154 rfl (by decide) ?_
      refine z_goto (tgt := 73) dL_law_157 (by decide) ?_
      rw [nI_add]
      exact (ih (k + 1) (by omega) τ ar2 dm2 tg2 _ (i2.up (by omega)) p2 r2 l2 hQ121).wk (by omega) (by omega)
    · skip
      refine z_iload dL_law_73 rfl ?_
      refine z_bi kb_64 dL_law_75 ?_
      refine z_icmp_ge (tgt := 160) dL_law_77 (by decide) (fun h77 => absurd h77 (nI_ge (by omega) (by decide))) (fun h77 => ?_)
      refine z_iload dL_law_80 rfl ?_
      refine z_if_eq (tgt := 160) dL_law_82 (by decide) (fun h82 => absurd h82 (by decide)) (fun h82 => ?_)
      refine z_aload_n dL_law_85 rfl rfl ?_
      refine z_aload_n dL_law_86 rfl rfl ?_
      refine z_ic ki_4 dL_law_87 ?_
      refine z_iload dL_law_88 rfl ?_
      refine z_imul dL_law_90 ?_
      rw [pk_mul]
      refine z_aload_n dL_law_91 rfl rfl ?_
      refine z_aload_n dL_law_92 rfl rfl ?_
      refine z_aload dL_law_93 rfl rfl ?_
      refine z_aload dL_law_95 rfl rfl ?_
      refine z_aload dL_law_97 rfl rfl ?_
      refine z_isQ dL_law_99 cs_RL_137 (c_L_isDone g hL hI (by omega) hP hR hE hw (p := 4 * k) (by omega)) ⟨⟨by decide, by decide⟩, (by first | exact Nat.zero_le _ | decide | omega), (by first | exact Nat.zero_le _ | decide | omega)⟩ rfl rfl (Nat.le_of_ble_eq_true rfl) (fun M99 hQ99 => ?_)
      obtain ⟨τ, ar2, dm2, tg2, i2, p2, r2, l2, w2⟩ := hQ99
      refine z_if_eq (tgt := 151) dL_law_102 (by decide) (fun h102 => absurd h102 (by decide)) (fun h102 => ?_)
      refine z_aload_n dL_law_105 rfl rfl ?_
      refine z_aload dL_law_106 rfl rfl ?_
      refine z_isQ dL_law_108 cs_RL_129 (c_L_areUnits g i2 (by omega) p2 r2 w2) ⟨⟨by decide, by decide⟩, (by first | exact Nat.zero_le _ | decide | omega), (by first | exact Nat.zero_le _ | decide | omega)⟩ rfl rfl (Nat.le_of_ble_eq_true rfl) (fun M108 hQ108 => ?_)
      refine z_if_eq (tgt := 151) dL_law_111 (by decide) (fun h111 => absurd h111 (by decide)) (fun h111 => ?_)
      refine z_aload_n dL_law_114 rfl rfl ?_
      refine z_aload_n dL_law_115 rfl rfl ?_
      refine z_aload_n dL_law_116 rfl rfl ?_
      refine z_aload dL_law_117 rfl rfl ?_
      refine z_aload dL_law_119 rfl rfl ?_
      refine z_isQ dL_law_121 cs_RL_141 (c_L_areObjects g i2 p2 r2 hQ108) ⟨⟨by decide, by decide⟩, (by first | exact Nat.zero_le _ | decide | omega), (by first | exact Nat.zero_le _ | decide | omega)⟩ rfl rfl (Nat.le_of_ble_eq_true rfl) (fun M121 hQ121 => ?_)
      refine z_if_eq (tgt := 151) dL_law_124 (by decide) (fun h124 => absurd h124 (by decide)) (fun h124 => ?_)
      refine z_iload dL_law_127 rfl ?_
      refine z_ic ki_5 dL_law_129 ?_
      refine z_irem dL_law_130 (by decide) ?_
      rw [e5]
      refine z_ic ki_4 dL_law_131 ?_
      refine z_icmp_lt (tgt := 147) dL_law_132 (by decide) (fun h132 => absurd h132 (nI_nlt (by omega) (by omega))) (fun h132 => ?_)
      refine z_aload_n dL_law_135 rfl rfl ?_
      refine z_aload_n dL_law_136 rfl rfl ?_
      refine z_aload dL_law_137 rfl rfl ?_
      refine z_aload dL_law_139 rfl rfl ?_
      refine z_isQ dL_law_141 cs_RL_133 (c_L_areWays g i2 r2 hQ121) ⟨⟨by decide, by decide⟩, (by first | exact Nat.zero_le _ | decide | omega), (by first | exact Nat.zero_le _ | decide | omega)⟩ rfl rfl (Nat.le_of_ble_eq_true rfl) (fun M141 hQ141 => ?_)
      refine z_if_eq (tgt := 151) dL_law_144 (by decide) (fun h144 => absurd h144 (by decide)) (fun h144 => ?_)
      refine z_ic ki_1 dL_law_147 ?_
      refine z_goto (tgt := 152) dL_law_148 (by decide) ?_
      refine z_istore dL_law_152 (by decide) ?_
      refine z_inc ki_1 dL_law_154 rfl (by decide) ?_
      refine z_goto (tgt := 73) dL_law_157 (by decide) ?_
      rw [nI_add]
      exact (ih (k + 1) (by omega) τ ar2 dm2 tg2 _ (i2.up (by omega)) p2 r2 l2 hQ141).wk (by omega) (by omega)
end LAW
theorem law_mid (g : GG) (hL : g.L ≤ 2048) {A0 : Nat → Nat → Nat} {M : Mem} (h : WA g A0 st0 (fun _ _ => 0) M) : tri g mL_law 190000 1200000 PLaw M 35 [(0, .ref g.b), (1, .ref (A0 0 0)), (2, .ref (A0 20 0)), (3, .ref (A0 20 1)), (4, .ref (A0 20 2)), (5, .ref (A0 20 3)), (6, .ref (A0 20 4))] [] := by
  refine z_aload_n dL_law_35 rfl rfl ?_
  refine z_aload dL_law_36 rfl rfl ?_
  refine z_isQ dL_law_38 cs_RL_129 (c_L_areUnits g inv_0 (by decide) pi_0 lr_0 h) ⟨⟨by decide, by decide⟩, (by first | exact Nat.zero_le _ | decide | omega), (by first | exact Nat.zero_le _ | decide | omega)⟩ rfl rfl (Nat.le_of_ble_eq_true rfl) (fun M38 hQ38 => ?_)
  refine z_if_eq (tgt := 67) dL_law_41 (by decide) (fun h41 => absurd h41 (by decide)) (fun h41 => ?_)
  refine z_aload_n dL_law_44 rfl rfl ?_
  refine z_aload_n dL_law_45 rfl rfl ?_
  refine z_aload dL_law_46 rfl rfl ?_
  refine z_aload dL_law_48 rfl rfl ?_
  refine z_isQ dL_law_50 cs_RL_133 (c_L_areWays g inv_0 lr_0 hQ38) ⟨⟨by decide, by decide⟩, (by first | exact Nat.zero_le _ | decide | omega), (by first | exact Nat.zero_le _ | decide | omega)⟩ rfl rfl (Nat.le_of_ble_eq_true rfl) (fun M50 hQ50 => ?_)
  refine z_if_eq (tgt := 67) dL_law_53 (by decide) (fun h53 => absurd h53 (by decide)) (fun h53 => ?_)
  refine z_aload_n dL_law_56 rfl rfl ?_
  refine z_ivW dL_law_57 cv_RL_105 hQ50 (a_replicate g inv_0 (by decide) hQ50) ⟨⟨by decide, by decide⟩, (by first | exact Nat.zero_le _ | decide | omega), (by first | exact Nat.zero_le _ | decide | omega)⟩ rfl rfl (Nat.le_of_ble_eq_true rfl) (fun M57 hQ57 => ?_)
  refine z_if_ne (tgt := 67) dL_law_60 (by decide) (fun h60 => absurd h60 (fun q => q rfl)) (fun h60 => ?_)
  refine z_ic ki_1 dL_law_63 ?_
  refine z_goto (tgt := 68) dL_law_64 (by decide) ?_
  refine z_istore dL_law_68 (by decide) ?_
  refine z_ic ki_0 dL_law_70 ?_
  refine z_istore dL_law_71 (by decide) ?_
  exact (law_loop g hL 64 0 rfl st0 _ false false _ inv_0 pi_0 lr_0 le_0 hQ57).wk (by decide) (by decide)
theorem law_tri (g : GG) (hL : g.L ≤ 2048) : tri g mL_law 200000 1210000 PLaw (fun _ => none) 0 [(0, .ref g.b)] [] := by
  have I0 : INI (fun _ => False) (fun _ => none) [] (fun _ => none) := INI.nil (fun z hz => hz.elim)
  refine z_new dL_law_0 nw_RL_9 (by decide) (by decide) (fun a ha => ?_)
  refine z_dup dL_law_3 rfl ?_
  have I1 := INI.new (q := a) I0 ha (ob 6 [.null, .null, .null])
  refine z_ipQ dL_law_4 ci_RL_128 (c_X5_init g I1.at) ⟨⟨by decide, by decide⟩, (by first | exact Nat.zero_le _ | decide | omega), (by first | exact Nat.zero_le _ | decide | omega)⟩ rfl rfl (Nat.le_of_ble_eq_true rfl) (fun M4 hQ4 => ?_)
  obtain ⟨f, p, q, r', s, u, c, o, ol, hF⟩ := hQ4
  have I2 := I1.call hF
  refine z_astore_n dL_law_7 (by decide) rfl ?_
  refine z_bi kb_60 dL_law_8 ?_
  refine z_newarray_int dL_law_10 ac_int rfl (by decide) (by decide) (by decide) (fun q10 hq10 => ?_)
  refine z_astore_n dL_law_12 (by decide) rfl ?_
  refine z_bi kb_14 dL_law_13 ?_
  refine z_newarray_int dL_law_15 ac_int rfl (by decide) (by decide) (by decide) (fun q15 hq15 => ?_)
  refine z_astore_n dL_law_17 (by decide) rfl ?_
  refine z_bi kb_12 dL_law_18 ?_
  refine z_newarray_int dL_law_20 ac_int rfl (by decide) (by decide) (by decide) (fun q20 hq20 => ?_)
  refine z_astore dL_law_22 (by decide) rfl ?_
  refine z_ic ki_5 dL_law_24 ?_
  refine z_newarray_int dL_law_25 ac_int rfl (by decide) (by decide) (by decide) (fun q25 hq25 => ?_)
  refine z_astore dL_law_27 (by decide) rfl ?_
  refine z_bi kb_60 dL_law_29 ?_
  refine z_newarray_int dL_law_31 ac_int rfl (by decide) (by decide) (by decide) (fun q31 hq31 => ?_)
  refine z_astore dL_law_33 (by decide) rfl ?_
  have I3 := I2.new hq10 (zI 60)
  have I4 := I3.new hq15 (zI 14)
  have I5 := I4.new hq20 (zI 12)
  have I6 := I5.new hq25 (zI 5)
  have I7 : INI (fun _ => False) (fun _ => none) (wL g a f p q r' s u c o ol q10 q15 q20 q25 q31) _ := I6.new hq31 (zI 60)
  have hW := world_0 g I7
  exact (law_mid g hL (A0 := wA a f p q r' s u c o ol q10 q15 q20 q25 q31) ⟨wA a f p q r' s u c o ol q10 q15 q20 q25 q31, st0, fun _ => 0, AK.refl _, hW⟩).wk (by decide) (by decide)
