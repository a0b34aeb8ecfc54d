/-! the law's cases -/
/-- what the law's turn goes on with -/
def LK (g : GG) (A0 : Nat → Nat → Nat) (B : Nat) (bk bn : Nat) (PL : PO) (i : Nat) : Prop := ∀ (A2 : Nat → Nat → Nat) (τ : ST) (x2 : XT) (M2 : Mem), AK A0 A2 → INV (B + 1000) τ → W2 g A2 τ τ x2 M2 → rbk τ x2.rb → tri g mL_law bk bn PL M2 1314 [(0, .ref g.b), (1, .ref (A0 0 0)), (2, .ref (A0 20 0)), (3, .ref (A0 22 0)), (4, .int (nI i))] []
theorem LK.go {g : GG} {A0 A2 : Nat → Nat → Nat} {B bk bn i bk' bn' : Nat} {PL : PO} (h : LK g A0 B bk bn PL i) {σ τ : ST} {x x1 x2 : XT} {M2 : Mem} {o : OP} {N : (Nat → Int32) → Nat → Int32} (hA : AK A0 A2) (h1 : INV (B + 1000) τ) (h2 : sim o.2.2 τ) (h3 : ∀ rb, rbk σ rb → rbk τ (N rb)) (hb : rbk σ x.rb) (h4 : x1.rb = x.rb) (hW : W2 g A2 τ o.2.2 x2 M2) (h5 : x2.rb = N x1.rb) (hk : bk ≤ bk') (hn : bn ≤ bn') : tri g mL_law bk' bn' PL M2 1314 [(0, .ref g.b), (1, .ref (A0 0 0)), (2, .ref (A0 20 0)), (3, .ref (A0 22 0)), (4, .int (nI i))] [] :=
  (h A2 τ x2 M2 hA h1 (hW.rswap h2) (by rw [h5, h4]; exact h3 _ hb)).wk hk hn
theorem AK.trans {A A1 A2 : Nat → Nat → Nat} (h : AK A A1) (k : AK A1 A2) : AK A A2 := fun kk hk => (k kk hk).trans (h kk hk)
theorem AK.c {A A2 : Nat → Nat → Nat} (h : AK A A2) : A2 0 0 = A 0 0 := h 0 (Or.inl rfl)
theorem AK.m {A A2 : Nat → Nat → Nat} (h : AK A A2) : A2 20 0 = A 20 0 := h 20 (Or.inr (Or.inl rfl))
theorem AK.o {A A2 : Nat → Nat → Nat} (h : AK A A2) : A2 22 0 = A 22 0 := h 22 (Or.inr (Or.inr rfl))
section CASES
variable (g : GG) {A A0 : Nat → Nat → Nat} {B : Nat} {σ : ST} {x : XT} {M : Mem}
theorem case_addFormat (hI : INV B σ) (hB : 2000000 ≤ B ∧ B + 1000 < 2147483648) (hA : AK A0 A) (hW : W2 g A σ σ x M) (hb : rbk σ x.rb) {bk bn i : Nat} {PL : PO} (hK : LK g A0 B bk bn PL i) (hi : i + 3 < g.L) (hL : g.L ≤ 2048) : tri g mL_law (bk + 16) (bn + 1000) PL M 132 [(0, .ref g.b), (1, .ref (A0 0 0)), (2, .ref (A0 20 0)), (3, .ref (A0 22 0)), (4, .int (nI i))] [] := by
  have hl := l_addFormat g hI hB hW (g.xs (i + 1))
  rw [hA.c, hA.o] at hl
  have hoc := oc_addFormat σ (g.xs (i + 1))
  refine z_aload_n dL_law_132 rfl rfl ?_
  refine z_aload_n dL_law_133 rfl rfl ?_
  refine z_iload dL_law_134 rfl ?_
  refine z_ic ki_1 dL_law_136 ?_
  refine z_iadd dL_law_137 ?_
  refine z_sld dL_law_138 (nI_add i 1) (by omega) hL ?_
  refine z_aload_n dL_law_139 rfl rfl ?_
  refine z_isXQ (dd := mL_addFormat) dL_law_140 cw_RL_75 rfl ⟨by decide, by decide⟩ (n := 3) (by decide +kernel) hl ⟨⟨by decide, by decide⟩, by omega, by omega⟩ rfl rfl (Nat.le_of_ble_eq_true rfl) (fun M140 hQ140 => ?_)
  refine z_istore dL_law_143 (by decide) ?_
  refine z_aload_n dL_law_145 rfl rfl ?_
  refine z_aload_n dL_law_146 rfl rfl ?_
  refine z_iload dL_law_147 rfl ?_
  refine z_ic ki_1 dL_law_149 ?_
  refine z_iadd dL_law_150 ?_
  refine z_sld dL_law_151 (nI_add i 1) (by omega) hL ?_
  obtain ⟨A2, τ, rc, f, hA2, ⟨hI2, hs2, hr2⟩, hf2, hW2⟩ := hQ140
  have hMm := hW2.m
  have hmc := m_addFormat g (x := (x.srch rc).sout f) hI hb hW2 (g.xs (i + 1))
  rw [hA2.m, hA.m] at hMm hmc
  refine z_ivQ dL_law_152 cv_RL_80 hMm (hmc) ⟨⟨by decide, by decide⟩, (by first | exact Nat.zero_le _ | decide | omega), (by first | exact Nat.zero_le _ | decide | omega)⟩ rfl rfl (Nat.le_of_ble_eq_true rfl) (fun M152 hQ152 => ?_)
  refine z_istore dL_law_155 (by decide) ?_
  refine z_aload_n dL_law_157 rfl rfl ?_
  obtain ⟨x2, hW3, ht3, ho3, hr3⟩ := hQ152
  have hM3 := hW3.m
  have hth := c_X6_thrown g hW3
  rw [hA2.m, hA.m] at hM3 hth
  rw [ht3] at hth
  refine z_ivI dL_law_158 cv_RL_81 hM3 (hth) ⟨⟨by decide, by decide⟩, (by first | exact Nat.zero_le _ | decide | omega), (by first | exact Nat.zero_le _ | decide | omega)⟩ rfl rfl (Nat.le_of_ble_eq_true rfl) ?_
  refine z_iload dL_law_161 rfl ?_
  refine z_icmp_eq (tgt := 168) dL_law_163 (by decide) (fun h163 => ?_) (fun h163 => absurd rfl h163)
  refine z_iload dL_law_168 rfl ?_
  refine z_if_ne (tgt := 185) dL_law_170 (by decide) (fun h170 => ?_) (fun h170 => ?_)
  · refine z_goto (tgt := 1314) dL_law_185 (by decide) ?_
    refine tri.take 5 ?_
    exact hK.go (hA.trans hA2) hI2 hs2 hr2 hb rfl hW3 hr3 (by omega) (by omega)
  · refine z_aload_n dL_law_173 rfl rfl ?_
    refine z_ic ki_0 dL_law_174 ?_
    have h0 := nz0 (by omega) h170
    have hO3 := hW3.out_
    rw [hA2.o, hA.o] at hO3
    have hans := (congrFun ho3 0).trans (hf2 h0)
    refine z_laload dL_law_175 hO3 rfl (by decide) (by decide) ?_
    refine z_iload dL_law_176 rfl ?_
    refine z_i2l dL_law_178 ?_
    refine z_lcmp dL_law_179 ?_
    refine z_if_eq (tgt := 185) dL_law_180 (by decide) (fun h180 => ?_) (fun h180 => absurd (by rw [hans]; exact lg_self _) h180)
    refine z_goto (tgt := 1314) dL_law_185 (by decide) ?_
    refine tri.take 5 ?_
    exact hK.go (hA.trans hA2) hI2 hs2 hr2 hb rfl hW3 hr3 (by omega) (by omega)
theorem case_setRisk (hI : INV B σ) (hB : 2000000 ≤ B ∧ B + 1000 < 2147483648) (hA : AK A0 A) (hW : W2 g A σ σ x M) (hb : rbk σ x.rb) {bk bn i : Nat} {PL : PO} (hK : LK g A0 B bk bn PL i) (hi : i + 3 < g.L) (hL : g.L ≤ 2048) : tri g mL_law (bk + 16) (bn + 1000) PL M 188 [(0, .ref g.b), (1, .ref (A0 0 0)), (2, .ref (A0 20 0)), (3, .ref (A0 22 0)), (4, .int (nI i))] [] := by
  have hl := l_setRisk g hI hB hW (g.xs (i + 1)) (g.xs (i + 2))
  rw [hA.c, hA.o] at hl
  have hoc := oc_setRisk σ (g.xs (i + 1)) (g.xs (i + 2))
  refine z_aload_n dL_law_188 rfl rfl ?_
  refine z_aload_n dL_law_189 rfl rfl ?_
  refine z_iload dL_law_190 rfl ?_
  refine z_ic ki_1 dL_law_192 ?_
  refine z_iadd dL_law_193 ?_
  refine z_sld dL_law_194 (nI_add i 1) (by omega) hL ?_
  refine z_aload_n dL_law_195 rfl rfl ?_
  refine z_iload dL_law_196 rfl ?_
  refine z_ic ki_2 dL_law_198 ?_
  refine z_iadd dL_law_199 ?_
  refine z_sld dL_law_200 (nI_add i 2) (by omega) hL ?_
  refine z_aload_n dL_law_201 rfl rfl ?_
  refine z_isXQ (dd := mL_setRisk) dL_law_202 cw_RL_85 rfl ⟨by decide, by decide⟩ (n := 4) (by decide +kernel) hl ⟨⟨by decide, by decide⟩, by omega, by omega⟩ rfl rfl (Nat.le_of_ble_eq_true rfl) (fun M202 hQ202 => ?_)
  refine z_istore dL_law_205 (by decide) ?_
  refine z_aload_n dL_law_207 rfl rfl ?_
  refine z_aload_n dL_law_208 rfl rfl ?_
  refine z_iload dL_law_209 rfl ?_
  refine z_ic ki_1 dL_law_211 ?_
  refine z_iadd dL_law_212 ?_
  refine z_sld dL_law_213 (nI_add i 1) (by omega) hL ?_
  refine z_aload_n dL_law_214 rfl rfl ?_
  refine z_iload dL_law_215 rfl ?_
  refine z_ic ki_2 dL_law_217 ?_
  refine z_iadd dL_law_218 ?_
  refine z_sld dL_law_219 (nI_add i 2) (by omega) hL ?_
  obtain ⟨A2, τ, rc, f, hA2, ⟨hI2, hs2, hr2⟩, hf2, hW2⟩ := hQ202
  have hMm := hW2.m
  have hmc := m_setRisk g (x := (x.srch rc).sout f) hI hb hW2 (g.xs (i + 1)) (g.xs (i + 2))
  rw [hA2.m, hA.m] at hMm hmc
  refine z_ivQ dL_law_220 cv_RL_88 hMm (hmc) ⟨⟨by decide, by decide⟩, (by first | exact Nat.zero_le _ | decide | omega), (by first | exact Nat.zero_le _ | decide | omega)⟩ rfl rfl (Nat.le_of_ble_eq_true rfl) (fun M220 hQ220 => ?_)
  refine z_istore dL_law_223 (by decide) ?_
  refine z_aload_n dL_law_225 rfl rfl ?_
  obtain ⟨x2, hW3, ht3, ho3, hr3⟩ := hQ220
  have hM3 := hW3.m
  have hth := c_X6_thrown g hW3
  rw [hA2.m, hA.m] at hM3 hth
  rw [ht3] at hth
  refine z_ivI dL_law_226 cv_RL_81 hM3 (hth) ⟨⟨by decide, by decide⟩, (by first | exact Nat.zero_le _ | decide | omega), (by first | exact Nat.zero_le _ | decide | omega)⟩ rfl rfl (Nat.le_of_ble_eq_true rfl) ?_
  refine z_iload dL_law_229 rfl ?_
  refine z_icmp_eq (tgt := 236) dL_law_231 (by decide) (fun h231 => ?_) (fun h231 => absurd rfl h231)
  refine z_iload dL_law_236 rfl ?_
  refine z_if_ne (tgt := 253) dL_law_238 (by decide) (fun h238 => ?_) (fun h238 => ?_)
  · refine z_goto (tgt := 1314) dL_law_253 (by decide) ?_
    refine tri.take 5 ?_
    exact hK.go (hA.trans hA2) hI2 hs2 hr2 hb rfl hW3 hr3 (by omega) (by omega)
  · refine z_aload_n dL_law_241 rfl rfl ?_
    refine z_ic ki_0 dL_law_242 ?_
    have h0 := nz0 (by omega) h238
    have hO3 := hW3.out_
    rw [hA2.o, hA.o] at hO3
    have hans := (congrFun ho3 0).trans (hf2 h0)
    refine z_laload dL_law_243 hO3 rfl (by decide) (by decide) ?_
    refine z_iload dL_law_244 rfl ?_
    refine z_i2l dL_law_246 ?_
    refine z_lcmp dL_law_247 ?_
    refine z_if_eq (tgt := 253) dL_law_248 (by decide) (fun h248 => ?_) (fun h248 => absurd (by rw [hans]; exact lg_self _) h248)
    refine z_goto (tgt := 1314) dL_law_253 (by decide) ?_
    refine tri.take 5 ?_
    exact hK.go (hA.trans hA2) hI2 hs2 hr2 hb rfl hW3 hr3 (by omega) (by omega)
end CASES
