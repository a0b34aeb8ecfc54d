/-! the law's look at objects and versions -/
section AREO
variable (g : GG) {A0 : Nat → Nat → Nat} {B : Nat} {σ : ST} {ar : Nat → Nat → Int32} {dm tg : Bool} {M : Mem}
theorem a_versF (hI : INV B σ) (h : WA g A0 σ ar M) {o : Nat} (ho : o < σ.ob) : con g mX5_versions 1 6 [.ref (A0 0 0), .int (nI o)] M (rQ (some (.int (bset (fun k => σ.b 0 (10 * o + k)) 10))) (WA g A0 σ ar)) := by
  have h10 := hI.wf.1.1
  have e1 : tN (nI o) = o := nI_clamp (by omega)
  have hc : inR σ.ob (nI o) = true := inR_nI (by omega) ho
  refine rO_q (a_versions g hI h (nI o)) ?_ ?_
  · unfold o_versions
    rw [if_pos hc]
  · unfold o_versions
    rw [if_pos hc, e1]
theorem c_L_areObjects (hI : INV B σ) (hP : PI σ dm tg) (hR : LR σ ar dm tg) (h : WA g A0 σ ar M) : con g mL_areObjects 372 2232 [.ref (A0 0 0), .ref (A0 20 0), .ref (A0 20 1), .ref (A0 20 2), .ref (A0 20 3)] M (rQ (some (.int (nI 1))) (WA g A0 σ ar)) := by
  refine con_i ?_ (by decide) rfl rfl (by simp [lv_args, Value.category]) (by simp [lv_args, lnd, Value.category])
  obtain ⟨g1, ⟨g2, g3, g4, g5, g6⟩, g7, g8, g9⟩ := hR
  have h10 := hI.wf.1.1
  have hu := un_60 hI g1
  have LI1 : ∀ (k b1 n1 : Nat), k < σ.ob → (∀ M', WA g A0 σ ar M' → tri g mL_areObjects b1 n1 (rQ (some (.int (nI 1))) (WA g A0 σ ar)) M' 316 [(0, .ref (A0 0 0)), (1, .ref (A0 20 0)), (2, .ref (A0 20 1)), (3, .ref (A0 20 2)), (4, .ref (A0 20 3)), (5, .int (nI 1)), (6, .int (nI k))] []) → ∀ j, j ≤ 10 → ∀ (M' : Mem) x7, WA g A0 σ ar M' → x7 = nI j → tri g mL_areObjects (6 * (10 - j) + b1) (36 * (10 - j) + n1) (rQ (some (.int (nI 1))) (WA g A0 σ ar)) M' 110 [(0, .ref (A0 0 0)), (1, .ref (A0 20 0)), (2, .ref (A0 20 1)), (3, .ref (A0 20 2)), (4, .ref (A0 20 3)), (5, .int (nI 1)), (6, .int (nI k)), (7, .int x7)] [] := by
    intro k b1 n1 hk K
    refine lp_up 10 ?_ ?_
    · intro M' x7 hw e7
      subst e7
      refine z_iload dL_areObjects_110 rfl ?_
      refine z_bi kb_10 dL_areObjects_112 ?_
      refine z_icmp_ge (tgt := 316) dL_areObjects_114 (by decide) (fun h114 => ?_) (fun h114 => absurd (nI_le (by omega) (by omega)) h114)
      refine tri.take 7 ?_
      exact (K _ hw).wk (by omega) (by omega)
    · intro j hj ih M' x7 hw e7
      subst e7
      have hv2 := (g8 k hk).2.1
      have ek : tN (nI k) = k := nI_clamp (by omega)
      have ej : tN (nI j) = j := nI_clamp (by omega)
      have etb : (bset (fun i => σ.b 0 (10 * k + i)) 10 >>> (nI j &&& 31)) &&& nI 1 = bI (σ.b 0 (10 * k + j)) := tx10 _ hj
      have eV := isV_n (σ := σ) h10 hk hj
      cases hb : σ.b 0 (10 * k + j) with
      | false =>
        have e149 : tl (o_unitOf σ (nI k) (nI j)) (-30) (-30) (-30) = -30 := by rw [t_unitOf, eV, hb, if_neg (by decide)]
        have e159 : tl (o_read σ (nI k) (nI j)) (-100000030) (-100000010) (-100000010) = -100000030 := by rw [t_read, eV, hb, if_neg (by decide)]
        refine z_iload dL_areObjects_110 rfl ?_
        refine z_bi kb_10 dL_areObjects_112 ?_
        refine z_icmp_ge (tgt := 316) dL_areObjects_114 (by decide) (fun h114 => absurd h114 (nI_ge hj (by omega))) (fun h114 => ?_)
        refine z_iload dL_areObjects_117 rfl ?_
        refine z_if_eq (tgt := 316) dL_areObjects_119 (by decide) (fun h119 => absurd h119 (by decide)) (fun h119 => ?_)
        refine z_aload_n dL_areObjects_122 rfl rfl ?_
        refine z_iload dL_areObjects_123 rfl ?_
        refine z_iaload dL_areObjects_125 (WA_2 hw) rfl (by omega) (by decide) ?_
        rw [hv2]
        refine z_iload dL_areObjects_126 rfl ?_
        refine z_ishr dL_areObjects_128 ?_
        refine z_ic ki_1 dL_areObjects_129 ?_
        refine z_iand dL_areObjects_130 ?_
        rw [etb, hb]
        refine z_ic ki_1 dL_areObjects_131 ?_
        refine z_icmp_ne (tgt := 139) dL_areObjects_132 (by decide) (fun h132 => ?_) (fun h132 => absurd h132 (by decide))
        refine z_ic ki_0 dL_areObjects_139 ?_
        refine z_istore dL_areObjects_140 (by decide) ?_
        refine z_aload_n dL_areObjects_142 rfl rfl ?_
        refine z_ic ki_5 dL_areObjects_143 ?_
        refine z_iload dL_areObjects_144 rfl ?_
        refine z_iload dL_areObjects_146 rfl ?_
        refine z_ic ki_0 dL_areObjects_148 ?_
        refine z_isXQ (dd := mL_versions) dL_areObjects_149 cw_RL_90 rfl ⟨by decide, by decide⟩ (n := 5) (by decide +kernel) (h_unitOf g hI hw (nI k) (nI j) (nI 0)) ⟨⟨by decide, by decide⟩, (by first | exact Nat.zero_le _ | decide | omega), (by first | exact Nat.zero_le _ | decide | omega)⟩ rfl rfl (Nat.le_of_ble_eq_true rfl) (fun M149 hQ149 => ?_)
        refine z_istore dL_areObjects_152 (by decide) ?_
        refine z_aload_n dL_areObjects_154 rfl rfl ?_
        refine z_iload dL_areObjects_155 rfl ?_
        refine z_iload dL_areObjects_157 rfl ?_
        refine z_isXQ (dd := mL_reads) dL_areObjects_159 cw_RL_92 rfl ⟨by decide, by decide⟩ (n := 3) (by decide +kernel) (h_read g hI hQ149 (nI k) (nI j)) ⟨⟨by decide, by decide⟩, (by first | exact Nat.zero_le _ | decide | omega), (by first | exact Nat.zero_le _ | decide | omega)⟩ rfl rfl (Nat.le_of_ble_eq_true rfl) (fun M159 hQ159 => ?_)
        rw [e149, e159]
        refine z_istore dL_areObjects_162 (by decide) ?_
        refine z_iload dL_areObjects_164 rfl ?_
        refine z_if_eq (tgt := 194) dL_areObjects_166 (by decide) (fun h166 => ?_) (fun h166 => absurd (by decide) h166)
        refine z_iload dL_areObjects_194 rfl ?_
        refine z_bi kb_m30 dL_areObjects_196 ?_
        refine z_icmp_ne (tgt := 212) dL_areObjects_198 (by decide) (fun h198 => absurd h198 (fun q => q rfl)) (fun h198 => ?_)
        refine z_iload dL_areObjects_201 rfl ?_
        refine z_ldc dL_areObjects_203 lc_RL_56 ?_
        refine z_icmp_ne (tgt := 212) dL_areObjects_205 (by decide) (fun h205 => absurd h205 (fun q => q rfl)) (fun h205 => ?_)
        refine z_ic ki_1 dL_areObjects_208 ?_
        refine z_goto (tgt := 213) dL_areObjects_209 (by decide) ?_
        refine z_istore dL_areObjects_213 (by decide) ?_
        refine z_iload dL_areObjects_215 rfl ?_
        refine z_if_eq (tgt := 259) dL_areObjects_217 (by decide) (fun h217 => absurd h217 (by decide)) (fun h217 => ?_)
        refine z_iload dL_areObjects_220 rfl ?_
        refine z_if_eq (tgt := 255) dL_areObjects_222 (by decide) (fun h222 => ?_) (fun h222 => absurd (by decide) h222)
        refine z_ic ki_1 dL_areObjects_255 ?_
        refine z_goto (tgt := 260) dL_areObjects_256 (by decide) ?_
        refine z_istore dL_areObjects_260 (by decide) ?_
        refine z_iload dL_areObjects_262 rfl ?_
        refine z_if_eq (tgt := 307) dL_areObjects_264 (by decide) (fun h264 => absurd h264 (by decide)) (fun h264 => ?_)
        refine z_iload dL_areObjects_267 rfl ?_
        refine z_if_eq (tgt := 303) dL_areObjects_269 (by decide) (fun h269 => ?_) (fun h269 => absurd (by decide) h269)
        refine z_ic ki_1 dL_areObjects_303 ?_
        refine z_goto (tgt := 308) dL_areObjects_304 (by decide) ?_
        refine z_istore dL_areObjects_308 (by decide) ?_
        refine z_inc ki_1 dL_areObjects_310 rfl (by decide) ?_
        refine z_goto (tgt := 110) dL_areObjects_313 (by decide) ?_
        refine tri.take 8 ?_
        exact (ih _ _ hQ159 (nI_add j 1)).wk (by omega) (by omega)
      | true =>
        have hvk := vok_of hI hb
        obtain ⟨u1, u2⟩ := b1_ch hI hb (chL_self σ (10 * k + j))
        have hU : isU σ (nI (σ.a 3 (10 * k + j))) = true := by rw [isU_n (by omega) (by omega), decide_eq_true u1, u2]; rfl
        have e149 : tl (o_unitOf σ (nI k) (nI j)) (-30) (-30) (-30) = nI (σ.a 3 (10 * k + j)) := by rw [t_unitOf, eV, hb, if_pos rfl, ek, ej]
        have e159 : tl (o_read σ (nI k) (nI j)) (-100000030) (-100000010) (-100000010) = if allG σ (chL σ (10 * k + j)) = true then rdv σ (10 * k + j) else -100000010 := by rw [t_read, eV, hb, if_pos rfl, ek, ej]
        have e180 : tl (o_sites σ (nI (σ.a 3 (10 * k + j)))) (-30) (-30) (-30) = bset (σ.cp (tN (nI (σ.a 3 (10 * k + j))))) 4 := by rw [t_sites, if_pos hU]
        have hcv := g9 _ hvk
        cases dm with
        | true =>
          refine z_iload dL_areObjects_110 rfl ?_
          refine z_bi kb_10 dL_areObjects_112 ?_
          refine z_icmp_ge (tgt := 316) dL_areObjects_114 (by decide) (fun h114 => absurd h114 (nI_ge hj (by omega))) (fun h114 => ?_)
          refine z_iload dL_areObjects_117 rfl ?_
          refine z_if_eq (tgt := 316) dL_areObjects_119 (by decide) (fun h119 => absurd h119 (by decide)) (fun h119 => ?_)
          refine z_aload_n dL_areObjects_122 rfl rfl ?_
          refine z_iload dL_areObjects_123 rfl ?_
          refine z_iaload dL_areObjects_125 (WA_2 hw) rfl (by omega) (by decide) ?_
          rw [hv2]
          refine z_iload dL_areObjects_126 rfl ?_
          refine z_ishr dL_areObjects_128 ?_
          refine z_ic ki_1 dL_areObjects_129 ?_
          refine z_iand dL_areObjects_130 ?_
          rw [etb, hb]
          refine z_ic ki_1 dL_areObjects_131 ?_
          refine z_icmp_ne (tgt := 139) dL_areObjects_132 (by decide) (fun h132 => absurd h132 (fun q => q rfl)) (fun h132 => ?_)
          refine z_ic ki_1 dL_areObjects_135 ?_
          refine z_goto (tgt := 140) dL_areObjects_136 (by decide) ?_
          refine z_istore dL_areObjects_140 (by decide) ?_
          refine z_aload_n dL_areObjects_142 rfl rfl ?_
          refine z_ic ki_5 dL_areObjects_143 ?_
          refine z_iload dL_areObjects_144 rfl ?_
          refine z_iload dL_areObjects_146 rfl ?_
          refine z_ic ki_0 dL_areObjects_148 ?_
          refine z_isXQ (dd := mL_versions) dL_areObjects_149 cw_RL_90 rfl ⟨by decide, by decide⟩ (n := 5) (by decide +kernel) (h_unitOf g hI hw (nI k) (nI j) (nI 0)) ⟨⟨by decide, by decide⟩, (by first | exact Nat.zero_le _ | decide | omega), (by first | exact Nat.zero_le _ | decide | omega)⟩ rfl rfl (Nat.le_of_ble_eq_true rfl) (fun M149 hQ149 => ?_)
          refine z_istore dL_areObjects_152 (by decide) ?_
          refine z_aload_n dL_areObjects_154 rfl rfl ?_
          refine z_iload dL_areObjects_155 rfl ?_
          refine z_iload dL_areObjects_157 rfl ?_
          refine z_isXQ (dd := mL_reads) dL_areObjects_159 cw_RL_92 rfl ⟨by decide, by decide⟩ (n := 3) (by decide +kernel) (h_read g hI hQ149 (nI k) (nI j)) ⟨⟨by decide, by decide⟩, (by first | exact Nat.zero_le _ | decide | omega), (by first | exact Nat.zero_le _ | decide | omega)⟩ rfl rfl (Nat.le_of_ble_eq_true rfl) (fun M159 hQ159 => ?_)
          rw [e149]
          refine z_istore dL_areObjects_162 (by decide) ?_
          refine z_iload dL_areObjects_164 rfl ?_
          refine z_if_eq (tgt := 194) dL_areObjects_166 (by decide) (fun h166 => absurd h166 (by decide)) (fun h166 => ?_)
          refine z_iload dL_areObjects_169 rfl ?_
          refine z_if_lt (tgt := 190) dL_areObjects_171 (by decide) (fun h171 => absurd h171 (nI_pos (by omega))) (fun h171 => ?_)
          refine z_aload_n dL_areObjects_174 rfl rfl ?_
          refine z_ic ki_0 dL_areObjects_175 ?_
          refine z_iload dL_areObjects_176 rfl ?_
          refine z_ic ki_0 dL_areObjects_178 ?_
          refine z_ic ki_0 dL_areObjects_179 ?_
          refine z_isXQ (dd := mL_copies) dL_areObjects_180 cw_RL_74 rfl ⟨by decide, by decide⟩ (n := 5) (by decide +kernel) (h_sites g hI hQ159 (nI (σ.a 3 (10 * k + j))) (nI 0) (nI 0)) ⟨⟨by decide, by decide⟩, (by first | exact Nat.zero_le _ | decide | omega), (by first | exact Nat.zero_le _ | decide | omega)⟩ rfl rfl (Nat.le_of_ble_eq_true rfl) (fun M180 hQ180 => ?_)
          refine z_if_lt (tgt := 190) dL_areObjects_183 (by decide) (fun h183 => absurd h183 (by rw [e180]; exact bset4_pos _)) (fun h183 => ?_)
          refine z_ic ki_1 dL_areObjects_186 ?_
          refine z_goto (tgt := 213) dL_areObjects_187 (by decide) ?_
          refine z_istore dL_areObjects_213 (by decide) ?_
          refine z_iload dL_areObjects_215 rfl ?_
          refine z_if_eq (tgt := 259) dL_areObjects_217 (by decide) (fun h217 => absurd h217 (by decide)) (fun h217 => ?_)
          refine z_iload dL_areObjects_220 rfl ?_
          refine z_if_eq (tgt := 255) dL_areObjects_222 (by decide) (fun h222 => absurd h222 (by decide)) (fun h222 => ?_)
          refine z_aload dL_areObjects_225 rfl rfl ?_
          refine z_ic ki_3 dL_areObjects_227 ?_
          refine z_iaload dL_areObjects_228 (WA_3 hQ180) rfl (by decide) (by decide) ?_
          refine z_ic ki_1 dL_areObjects_229 ?_
          refine z_icmp_eq (tgt := 255) dL_areObjects_230 (by decide) (fun h230 => ?_) (fun h230 => absurd g5 h230)
          refine z_ic ki_1 dL_areObjects_255 ?_
          refine z_goto (tgt := 260) dL_areObjects_256 (by decide) ?_
          refine z_istore dL_areObjects_260 (by decide) ?_
          refine z_iload dL_areObjects_262 rfl ?_
          refine z_if_eq (tgt := 307) dL_areObjects_264 (by decide) (fun h264 => absurd h264 (by decide)) (fun h264 => ?_)
          refine z_iload dL_areObjects_267 rfl ?_
          refine z_if_eq (tgt := 303) dL_areObjects_269 (by decide) (fun h269 => absurd h269 (by decide)) (fun h269 => ?_)
          refine z_aload dL_areObjects_272 rfl rfl ?_
          refine z_ic ki_3 dL_areObjects_274 ?_
          refine z_iaload dL_areObjects_275 (WA_3 hQ180) rfl (by decide) (by decide) ?_
          refine z_ic ki_1 dL_areObjects_276 ?_
          refine z_icmp_eq (tgt := 303) dL_areObjects_277 (by decide) (fun h277 => ?_) (fun h277 => absurd g5 h277)
          refine z_ic ki_1 dL_areObjects_303 ?_
          refine z_goto (tgt := 308) dL_areObjects_304 (by decide) ?_
          refine z_istore dL_areObjects_308 (by decide) ?_
          refine z_inc ki_1 dL_areObjects_310 rfl (by decide) ?_
          refine z_goto (tgt := 110) dL_areObjects_313 (by decide) ?_
          refine tri.take 8 ?_
          exact (ih _ _ hQ180 (nI_add j 1)).wk (by omega) (by omega)
        | false =>
          have n5 : ¬ ar 3 3 = nI 1 := by rw [g5]; decide
          cases tg with
          | true =>
            have hrd : ¬ (if allG σ (chL σ (10 * k + j)) = true then rdv σ (10 * k + j) else -100000010) = ar 0 (10 * k + j) → (if allG σ (chL σ (10 * k + j)) = true then rdv σ (10 * k + j) else -100000010) = -100000010 := fun q => by
              by_cases ha : allG σ (chL σ (10 * k + j)) = true
              · rw [if_pos ha] at q
                exact absurd (by rw [hcv, rd_cont hP ha]) q
              · rw [if_neg ha]
            refine z_iload dL_areObjects_110 rfl ?_
            refine z_bi kb_10 dL_areObjects_112 ?_
            refine z_icmp_ge (tgt := 316) dL_areObjects_114 (by decide) (fun h114 => absurd h114 (nI_ge hj (by omega))) (fun h114 => ?_)
            refine z_iload dL_areObjects_117 rfl ?_
            refine z_if_eq (tgt := 316) dL_areObjects_119 (by decide) (fun h119 => absurd h119 (by decide)) (fun h119 => ?_)
            refine z_aload_n dL_areObjects_122 rfl rfl ?_
            refine z_iload dL_areObjects_123 rfl ?_
            refine z_iaload dL_areObjects_125 (WA_2 hw) rfl (by omega) (by decide) ?_
            rw [hv2]
            refine z_iload dL_areObjects_126 rfl ?_
            refine z_ishr dL_areObjects_128 ?_
            refine z_ic ki_1 dL_areObjects_129 ?_
            refine z_iand dL_areObjects_130 ?_
            rw [etb, hb]
            refine z_ic ki_1 dL_areObjects_131 ?_
            refine z_icmp_ne (tgt := 139) dL_areObjects_132 (by decide) (fun h132 => absurd h132 (fun q => q rfl)) (fun h132 => ?_)
            refine z_ic ki_1 dL_areObjects_135 ?_
            refine z_goto (tgt := 140) dL_areObjects_136 (by decide) ?_
            refine z_istore dL_areObjects_140 (by decide) ?_
            refine z_aload_n dL_areObjects_142 rfl rfl ?_
            refine z_ic ki_5 dL_areObjects_143 ?_
            refine z_iload dL_areObjects_144 rfl ?_
            refine z_iload dL_areObjects_146 rfl ?_
            refine z_ic ki_0 dL_areObjects_148 ?_
            refine z_isXQ (dd := mL_versions) dL_areObjects_149 cw_RL_90 rfl ⟨by decide, by decide⟩ (n := 5) (by decide +kernel) (h_unitOf g hI hw (nI k) (nI j) (nI 0)) ⟨⟨by decide, by decide⟩, (by first | exact Nat.zero_le _ | decide | omega), (by first | exact Nat.zero_le _ | decide | omega)⟩ rfl rfl (Nat.le_of_ble_eq_true rfl) (fun M149 hQ149 => ?_)
            refine z_istore dL_areObjects_152 (by decide) ?_
            refine z_aload_n dL_areObjects_154 rfl rfl ?_
            refine z_iload dL_areObjects_155 rfl ?_
            refine z_iload dL_areObjects_157 rfl ?_
            refine z_isXQ (dd := mL_reads) dL_areObjects_159 cw_RL_92 rfl ⟨by decide, by decide⟩ (n := 3) (by decide +kernel) (h_read g hI hQ149 (nI k) (nI j)) ⟨⟨by decide, by decide⟩, (by first | exact Nat.zero_le _ | decide | omega), (by first | exact Nat.zero_le _ | decide | omega)⟩ rfl rfl (Nat.le_of_ble_eq_true rfl) (fun M159 hQ159 => ?_)
            rw [e149, e159]
            refine z_istore dL_areObjects_162 (by decide) ?_
            refine z_iload dL_areObjects_164 rfl ?_
            refine z_if_eq (tgt := 194) dL_areObjects_166 (by decide) (fun h166 => absurd h166 (by decide)) (fun h166 => ?_)
            refine z_iload dL_areObjects_169 rfl ?_
            refine z_if_lt (tgt := 190) dL_areObjects_171 (by decide) (fun h171 => absurd h171 (nI_pos (by omega))) (fun h171 => ?_)
            refine z_aload_n dL_areObjects_174 rfl rfl ?_
            refine z_ic ki_0 dL_areObjects_175 ?_
            refine z_iload dL_areObjects_176 rfl ?_
            refine z_ic ki_0 dL_areObjects_178 ?_
            refine z_ic ki_0 dL_areObjects_179 ?_
            refine z_isXQ (dd := mL_copies) dL_areObjects_180 cw_RL_74 rfl ⟨by decide, by decide⟩ (n := 5) (by decide +kernel) (h_sites g hI hQ159 (nI (σ.a 3 (10 * k + j))) (nI 0) (nI 0)) ⟨⟨by decide, by decide⟩, (by first | exact Nat.zero_le _ | decide | omega), (by first | exact Nat.zero_le _ | decide | omega)⟩ rfl rfl (Nat.le_of_ble_eq_true rfl) (fun M180 hQ180 => ?_)
            refine z_if_lt (tgt := 190) dL_areObjects_183 (by decide) (fun h183 => absurd h183 (by rw [e180]; exact bset4_pos _)) (fun h183 => ?_)
            refine z_ic ki_1 dL_areObjects_186 ?_
            refine z_goto (tgt := 213) dL_areObjects_187 (by decide) ?_
            refine z_istore dL_areObjects_213 (by decide) ?_
            refine z_iload dL_areObjects_215 rfl ?_
            refine z_if_eq (tgt := 259) dL_areObjects_217 (by decide) (fun h217 => absurd h217 (by decide)) (fun h217 => ?_)
            refine z_iload dL_areObjects_220 rfl ?_
            refine z_if_eq (tgt := 255) dL_areObjects_222 (by decide) (fun h222 => absurd h222 (by decide)) (fun h222 => ?_)
            refine z_aload dL_areObjects_225 rfl rfl ?_
            refine z_ic ki_3 dL_areObjects_227 ?_
            refine z_iaload dL_areObjects_228 (WA_3 hQ180) rfl (by decide) (by decide) ?_
            refine z_ic ki_1 dL_areObjects_229 ?_
            refine z_icmp_eq (tgt := 255) dL_areObjects_230 (by decide) (fun h230 => absurd h230 n5) (fun h230 => ?_)
            refine z_iload dL_areObjects_233 rfl ?_
            refine z_aload_n dL_areObjects_235 rfl rfl ?_
            refine z_bi kb_10 dL_areObjects_236 ?_
            refine z_iload dL_areObjects_238 rfl ?_
            refine z_imul dL_areObjects_240 ?_
            refine z_iload dL_areObjects_241 rfl ?_
            refine z_iadd dL_areObjects_243 ?_
            refine z_iaload dL_areObjects_244 (WA_0 hQ180) (ix10 k j) (by omega) (by decide) ?_
            refine z_icmp_eq (tgt := 255) dL_areObjects_245 (by decide) (fun h245 => ?_) (fun h245 => ?_)
            · refine z_ic ki_1 dL_areObjects_255 ?_
              refine z_goto (tgt := 260) dL_areObjects_256 (by decide) ?_
              refine z_istore dL_areObjects_260 (by decide) ?_
              refine z_iload dL_areObjects_262 rfl ?_
              refine z_if_eq (tgt := 307) dL_areObjects_264 (by decide) (fun h264 => absurd h264 (by decide)) (fun h264 => ?_)
              refine z_iload dL_areObjects_267 rfl ?_
              refine z_if_eq (tgt := 303) dL_areObjects_269 (by decide) (fun h269 => absurd h269 (by decide)) (fun h269 => ?_)
              refine z_aload dL_areObjects_272 rfl rfl ?_
              refine z_ic ki_3 dL_areObjects_274 ?_
              refine z_iaload dL_areObjects_275 (WA_3 hQ180) rfl (by decide) (by decide) ?_
              refine z_ic ki_1 dL_areObjects_276 ?_
              refine z_icmp_eq (tgt := 303) dL_areObjects_277 (by decide) (fun h277 => absurd h277 n5) (fun h277 => ?_)
              refine z_aload dL_areObjects_280 rfl rfl ?_
              refine z_ic ki_4 dL_areObjects_282 ?_
              refine z_iaload dL_areObjects_283 (WA_3 hQ180) rfl (by decide) (by decide) ?_
              refine z_ic ki_1 dL_areObjects_284 ?_
              refine z_icmp_eq (tgt := 303) dL_areObjects_285 (by decide) (fun h285 => ?_) (fun h285 => absurd g6 h285)
              refine z_ic ki_1 dL_areObjects_303 ?_
              refine z_goto (tgt := 308) dL_areObjects_304 (by decide) ?_
              refine z_istore dL_areObjects_308 (by decide) ?_
              refine z_inc ki_1 dL_areObjects_310 rfl (by decide) ?_
              refine z_goto (tgt := 110) dL_areObjects_313 (by decide) ?_
              refine tri.take 8 ?_
              exact (ih _ _ hQ180 (nI_add j 1)).wk (by omega) (by omega)
            · refine z_iload dL_areObjects_248 rfl ?_
              refine z_ldc dL_areObjects_250 lc_RL_57 ?_
              refine z_icmp_ne (tgt := 259) dL_areObjects_252 (by decide) (fun h252 => absurd h252 (fun q => q (hrd h245))) (fun h252 => ?_)
              refine z_ic ki_1 dL_areObjects_255 ?_
              refine z_goto (tgt := 260) dL_areObjects_256 (by decide) ?_
              refine z_istore dL_areObjects_260 (by decide) ?_
              refine z_iload dL_areObjects_262 rfl ?_
              refine z_if_eq (tgt := 307) dL_areObjects_264 (by decide) (fun h264 => absurd h264 (by decide)) (fun h264 => ?_)
              refine z_iload dL_areObjects_267 rfl ?_
              refine z_if_eq (tgt := 303) dL_areObjects_269 (by decide) (fun h269 => absurd h269 (by decide)) (fun h269 => ?_)
              refine z_aload dL_areObjects_272 rfl rfl ?_
              refine z_ic ki_3 dL_areObjects_274 ?_
              refine z_iaload dL_areObjects_275 (WA_3 hQ180) rfl (by decide) (by decide) ?_
              refine z_ic ki_1 dL_areObjects_276 ?_
              refine z_icmp_eq (tgt := 303) dL_areObjects_277 (by decide) (fun h277 => absurd h277 n5) (fun h277 => ?_)
              refine z_aload dL_areObjects_280 rfl rfl ?_
              refine z_ic ki_4 dL_areObjects_282 ?_
              refine z_iaload dL_areObjects_283 (WA_3 hQ180) rfl (by decide) (by decide) ?_
              refine z_ic ki_1 dL_areObjects_284 ?_
              refine z_icmp_eq (tgt := 303) dL_areObjects_285 (by decide) (fun h285 => ?_) (fun h285 => absurd g6 h285)
              refine z_ic ki_1 dL_areObjects_303 ?_
              refine z_goto (tgt := 308) dL_areObjects_304 (by decide) ?_
              refine z_istore dL_areObjects_308 (by decide) ?_
              refine z_inc ki_1 dL_areObjects_310 rfl (by decide) ?_
              refine z_goto (tgt := 110) dL_areObjects_313 (by decide) ?_
              refine tri.take 8 ?_
              exact (ih _ _ hQ180 (nI_add j 1)).wk (by omega) (by omega)
          | false =>
            have n6 : ¬ ar 3 4 = nI 1 := by rw [g6]; decide
            have ha := rd_all hI hP hb
            have e159b : tl (o_read σ (nI k) (nI j)) (-100000030) (-100000010) (-100000010) = ar 0 (10 * k + j) := by rw [e159, if_pos ha, rd_cont hP ha, hcv]
            refine z_iload dL_areObjects_110 rfl ?_
            refine z_bi kb_10 dL_areObjects_112 ?_
            refine z_icmp_ge (tgt := 316) dL_areObjects_114 (by decide) (fun h114 => absurd h114 (nI_ge hj (by omega))) (fun h114 => ?_)
            refine z_iload dL_areObjects_117 rfl ?_
            refine z_if_eq (tgt := 316) dL_areObjects_119 (by decide) (fun h119 => absurd h119 (by decide)) (fun h119 => ?_)
            refine z_aload_n dL_areObjects_122 rfl rfl ?_
            refine z_iload dL_areObjects_123 rfl ?_
            refine z_iaload dL_areObjects_125 (WA_2 hw) rfl (by omega) (by decide) ?_
            rw [hv2]
            refine z_iload dL_areObjects_126 rfl ?_
            refine z_ishr dL_areObjects_128 ?_
            refine z_ic ki_1 dL_areObjects_129 ?_
            refine z_iand dL_areObjects_130 ?_
            rw [etb, hb]
            refine z_ic ki_1 dL_areObjects_131 ?_
            refine z_icmp_ne (tgt := 139) dL_areObjects_132 (by decide) (fun h132 => absurd h132 (fun q => q rfl)) (fun h132 => ?_)
            refine z_ic ki_1 dL_areObjects_135 ?_
            refine z_goto (tgt := 140) dL_areObjects_136 (by decide) ?_
            refine z_istore dL_areObjects_140 (by decide) ?_
            refine z_aload_n dL_areObjects_142 rfl rfl ?_
            refine z_ic ki_5 dL_areObjects_143 ?_
            refine z_iload dL_areObjects_144 rfl ?_
            refine z_iload dL_areObjects_146 rfl ?_
            refine z_ic ki_0 dL_areObjects_148 ?_
            refine z_isXQ (dd := mL_versions) dL_areObjects_149 cw_RL_90 rfl ⟨by decide, by decide⟩ (n := 5) (by decide +kernel) (h_unitOf g hI hw (nI k) (nI j) (nI 0)) ⟨⟨by decide, by decide⟩, (by first | exact Nat.zero_le _ | decide | omega), (by first | exact Nat.zero_le _ | decide | omega)⟩ rfl rfl (Nat.le_of_ble_eq_true rfl) (fun M149 hQ149 => ?_)
            refine z_istore dL_areObjects_152 (by decide) ?_
            refine z_aload_n dL_areObjects_154 rfl rfl ?_
            refine z_iload dL_areObjects_155 rfl ?_
            refine z_iload dL_areObjects_157 rfl ?_
            refine z_isXQ (dd := mL_reads) dL_areObjects_159 cw_RL_92 rfl ⟨by decide, by decide⟩ (n := 3) (by decide +kernel) (h_read g hI hQ149 (nI k) (nI j)) ⟨⟨by decide, by decide⟩, (by first | exact Nat.zero_le _ | decide | omega), (by first | exact Nat.zero_le _ | decide | omega)⟩ rfl rfl (Nat.le_of_ble_eq_true rfl) (fun M159 hQ159 => ?_)
            rw [e149, e159b]
            refine z_istore dL_areObjects_162 (by decide) ?_
            refine z_iload dL_areObjects_164 rfl ?_
            refine z_if_eq (tgt := 194) dL_areObjects_166 (by decide) (fun h166 => absurd h166 (by decide)) (fun h166 => ?_)
            refine z_iload dL_areObjects_169 rfl ?_
            refine z_if_lt (tgt := 190) dL_areObjects_171 (by decide) (fun h171 => absurd h171 (nI_pos (by omega))) (fun h171 => ?_)
            refine z_aload_n dL_areObjects_174 rfl rfl ?_
            refine z_ic ki_0 dL_areObjects_175 ?_
            refine z_iload dL_areObjects_176 rfl ?_
            refine z_ic ki_0 dL_areObjects_178 ?_
            refine z_ic ki_0 dL_areObjects_179 ?_
            refine z_isXQ (dd := mL_copies) dL_areObjects_180 cw_RL_74 rfl ⟨by decide, by decide⟩ (n := 5) (by decide +kernel) (h_sites g hI hQ159 (nI (σ.a 3 (10 * k + j))) (nI 0) (nI 0)) ⟨⟨by decide, by decide⟩, (by first | exact Nat.zero_le _ | decide | omega), (by first | exact Nat.zero_le _ | decide | omega)⟩ rfl rfl (Nat.le_of_ble_eq_true rfl) (fun M180 hQ180 => ?_)
            refine z_if_lt (tgt := 190) dL_areObjects_183 (by decide) (fun h183 => absurd h183 (by rw [e180]; exact bset4_pos _)) (fun h183 => ?_)
            refine z_ic ki_1 dL_areObjects_186 ?_
            refine z_goto (tgt := 213) dL_areObjects_187 (by decide) ?_
            refine z_istore dL_areObjects_213 (by decide) ?_
            refine z_iload dL_areObjects_215 rfl ?_
            refine z_if_eq (tgt := 259) dL_areObjects_217 (by decide) (fun h217 => absurd h217 (by decide)) (fun h217 => ?_)
            refine z_iload dL_areObjects_220 rfl ?_
            refine z_if_eq (tgt := 255) dL_areObjects_222 (by decide) (fun h222 => absurd h222 (by decide)) (fun h222 => ?_)
            refine z_aload dL_areObjects_225 rfl rfl ?_
            refine z_ic ki_3 dL_areObjects_227 ?_
            refine z_iaload dL_areObjects_228 (WA_3 hQ180) rfl (by decide) (by decide) ?_
            refine z_ic ki_1 dL_areObjects_229 ?_
            refine z_icmp_eq (tgt := 255) dL_areObjects_230 (by decide) (fun h230 => absurd h230 n5) (fun h230 => ?_)
            refine z_iload dL_areObjects_233 rfl ?_
            refine z_aload_n dL_areObjects_235 rfl rfl ?_
            refine z_bi kb_10 dL_areObjects_236 ?_
            refine z_iload dL_areObjects_238 rfl ?_
            refine z_imul dL_areObjects_240 ?_
            refine z_iload dL_areObjects_241 rfl ?_
            refine z_iadd dL_areObjects_243 ?_
            refine z_iaload dL_areObjects_244 (WA_0 hQ180) (ix10 k j) (by omega) (by decide) ?_
            refine z_icmp_eq (tgt := 255) dL_areObjects_245 (by decide) (fun h245 => ?_) (fun h245 => absurd rfl h245)
            refine z_ic ki_1 dL_areObjects_255 ?_
            refine z_goto (tgt := 260) dL_areObjects_256 (by decide) ?_
            refine z_istore dL_areObjects_260 (by decide) ?_
            refine z_iload dL_areObjects_262 rfl ?_
            refine z_if_eq (tgt := 307) dL_areObjects_264 (by decide) (fun h264 => absurd h264 (by decide)) (fun h264 => ?_)
            refine z_iload dL_areObjects_267 rfl ?_
            refine z_if_eq (tgt := 303) dL_areObjects_269 (by decide) (fun h269 => absurd h269 (by decide)) (fun h269 => ?_)
            refine z_aload dL_areObjects_272 rfl rfl ?_
            refine z_ic ki_3 dL_areObjects_274 ?_
            refine z_iaload dL_areObjects_275 (WA_3 hQ180) rfl (by decide) (by decide) ?_
            refine z_ic ki_1 dL_areObjects_276 ?_
            refine z_icmp_eq (tgt := 303) dL_areObjects_277 (by decide) (fun h277 => absurd h277 n5) (fun h277 => ?_)
            refine z_aload dL_areObjects_280 rfl rfl ?_
            refine z_ic ki_4 dL_areObjects_282 ?_
            refine z_iaload dL_areObjects_283 (WA_3 hQ180) rfl (by decide) (by decide) ?_
            refine z_ic ki_1 dL_areObjects_284 ?_
            refine z_icmp_eq (tgt := 303) dL_areObjects_285 (by decide) (fun h285 => absurd h285 n6) (fun h285 => ?_)
            refine z_iload dL_areObjects_288 rfl ?_
            refine z_aload_n dL_areObjects_290 rfl rfl ?_
            refine z_bi kb_10 dL_areObjects_291 ?_
            refine z_iload dL_areObjects_293 rfl ?_
            refine z_imul dL_areObjects_295 ?_
            refine z_iload dL_areObjects_296 rfl ?_
            refine z_iadd dL_areObjects_298 ?_
            refine z_iaload dL_areObjects_299 (WA_0 hQ180) (ix10 k j) (by omega) (by decide) ?_
            refine z_icmp_ne (tgt := 307) dL_areObjects_300 (by decide) (fun h300 => absurd h300 (fun q => q rfl)) (fun h300 => ?_)
            refine z_ic ki_1 dL_areObjects_303 ?_
            refine z_goto (tgt := 308) dL_areObjects_304 (by decide) ?_
            refine z_istore dL_areObjects_308 (by decide) ?_
            refine z_inc ki_1 dL_areObjects_310 rfl (by decide) ?_
            refine z_goto (tgt := 110) dL_areObjects_313 (by decide) ?_
            refine tri.take 8 ?_
            exact (ih _ _ hQ180 (nI_add j 1)).wk (by omega) (by omega)
  have LO : ∀ k, k ≤ σ.ob → ∀ (M' : Mem) x6, WA g A0 σ ar M' → x6 = nI k → tri g mL_areObjects (61 * (6 - k)) (366 * (6 - k)) (rQ (some (.int (nI 1))) (WA g A0 σ ar)) M' 53 [(0, .ref (A0 0 0)), (1, .ref (A0 20 0)), (2, .ref (A0 20 1)), (3, .ref (A0 20 2)), (4, .ref (A0 20 3)), (5, .int (nI 1)), (6, .int x6)] [] := by
    refine lp_up σ.ob ?_ ?_
    · intro M' x6 hw e6
      subst e6
      refine z_iload dL_areObjects_53 rfl ?_
      refine z_aload dL_areObjects_55 rfl rfl ?_
      refine z_ic ki_1 dL_areObjects_57 ?_
      refine z_iaload dL_areObjects_58 (WA_3 hw) rfl (by decide) (by decide) ?_
      rw [g3]
      refine z_icmp_ge (tgt := 322) dL_areObjects_59 (by decide) (fun h59 => ?_) (fun h59 => absurd (nI_le (by omega) (by omega)) h59)
      refine z_iload dL_areObjects_322 rfl ?_
      refine z_ireturn dL_areObjects_324 rfl (by first | rfl | exact bI_nar _) ?_
      exact rQ_of hw
    · intro k hk ih M' x6 hw e6
      subst e6
      obtain ⟨hv1, hv2, -⟩ := g8 k hk
      have h1k := hI.wf.2.1 k hk
      obtain ⟨kk, kk1, kk2⟩ := hI.hv k hk
      have hpos : ¬ bset (fun i => σ.b 0 (10 * k + i)) 10 ≤ 0 := bset_pos (f := fun i => σ.b 0 (10 * k + i)) kk1 kk2
      have hlt : bset (fun i => σ.b 0 (10 * k + i)) 10 < nI 1 <<< (nI (σ.a 1 k) &&& 31) := bset_lt h1k (fun i h1 h2 => b0_hi hI h2 h1)
      have K : ∀ M', WA g A0 σ ar M' → tri g mL_areObjects (61 * (6 - (k + 1))) (366 * (6 - (k + 1))) (rQ (some (.int (nI 1))) (WA g A0 σ ar)) M' 316 [(0, .ref (A0 0 0)), (1, .ref (A0 20 0)), (2, .ref (A0 20 1)), (3, .ref (A0 20 2)), (4, .ref (A0 20 3)), (5, .int (nI 1)), (6, .int (nI k))] [] := by
        intro M' hw
        refine z_inc ki_1 dL_areObjects_316 rfl (by decide) ?_
        refine z_goto (tgt := 53) dL_areObjects_319 (by decide) ?_
        exact ih _ _ hw (nI_add k 1)
      refine z_iload dL_areObjects_53 rfl ?_
      refine z_aload dL_areObjects_55 rfl rfl ?_
      refine z_ic ki_1 dL_areObjects_57 ?_
      refine z_iaload dL_areObjects_58 (WA_3 hw) rfl (by decide) (by decide) ?_
      rw [g3]
      refine z_icmp_ge (tgt := 322) dL_areObjects_59 (by decide) (fun h59 => absurd h59 (nI_ge hk (by omega))) (fun h59 => ?_)
      refine z_iload dL_areObjects_62 rfl ?_
      refine z_if_eq (tgt := 322) dL_areObjects_64 (by decide) (fun h64 => absurd h64 (by decide)) (fun h64 => ?_)
      refine z_aload_n dL_areObjects_67 rfl rfl ?_
      refine z_iload dL_areObjects_68 rfl ?_
      refine z_ivW dL_areObjects_70 cv_RL_47 hw (a_versF g hI hw hk) ⟨⟨by decide, by decide⟩, (by first | exact Nat.zero_le _ | decide | omega), (by first | exact Nat.zero_le _ | decide | omega)⟩ rfl rfl (Nat.le_of_ble_eq_true rfl) (fun M70 hQ70 => ?_)
      refine z_aload_n dL_areObjects_73 rfl rfl ?_
      refine z_iload dL_areObjects_74 rfl ?_
      refine z_iaload dL_areObjects_76 (WA_2 hQ70) rfl (by omega) (by decide) ?_
      rw [hv2]
      refine z_icmp_ne (tgt := 104) dL_areObjects_77 (by decide) (fun h77 => absurd h77 (fun q => q rfl)) (fun h77 => ?_)
      refine z_aload_n dL_areObjects_80 rfl rfl ?_
      refine z_iload dL_areObjects_81 rfl ?_
      refine z_iaload dL_areObjects_83 (WA_2 hQ70) rfl (by omega) (by decide) ?_
      rw [hv2]
      refine z_if_le (tgt := 104) dL_areObjects_84 (by decide) (fun h84 => absurd h84 hpos) (fun h84 => ?_)
      refine z_aload_n dL_areObjects_87 rfl rfl ?_
      refine z_iload dL_areObjects_88 rfl ?_
      refine z_iaload dL_areObjects_90 (WA_2 hQ70) rfl (by omega) (by decide) ?_
      refine z_ic ki_1 dL_areObjects_91 ?_
      refine z_aload_n dL_areObjects_92 rfl rfl ?_
      refine z_iload dL_areObjects_93 rfl ?_
      refine z_iaload dL_areObjects_95 (WA_1 hQ70) rfl (by omega) (by decide) ?_
      refine z_ishl dL_areObjects_96 ?_
      rw [hv2, hv1]
      refine z_icmp_ge (tgt := 104) dL_areObjects_97 (by decide) (fun h97 => absurd h97 (Int32.not_le.mpr hlt)) (fun h97 => ?_)
      refine z_ic ki_1 dL_areObjects_100 ?_
      refine z_goto (tgt := 105) dL_areObjects_101 (by decide) ?_
      refine z_istore dL_areObjects_105 (by decide) ?_
      refine z_ic ki_0 dL_areObjects_107 ?_
      refine z_istore dL_areObjects_108 (by decide) ?_
      exact (LI1 k _ _ hk K 0 (by omega) _ _ hQ70 rfl).wk (by omega) (by omega)
  have i1 : inR σ.ob (nI σ.ob) = false := inR_no (by omega) (by omega) (Nat.le_refl _)
  have e8 : tl (o_versions σ (nI σ.ob)) (-30) (-30) (-30) = -30 := by rw [t_versions, i1, if_neg (by decide)]
  have e24 : tl (o_unitOf σ (nI σ.ob) (nI 0)) (-30) (-30) (-30) = -30 := by
    rw [t_unitOf]
    unfold isV
    rw [i1, Bool.false_and, if_neg (by decide)]
  have e35 : tl (o_read σ (-1) (nI 0)) (-100000030) (-100000010) (-100000010) = -100000030 := by
    rw [t_read]
    unfold isV
    rw [inR_m1, Bool.false_and, if_neg (by decide)]
  refine z_aload_n dL_areObjects_0 rfl rfl ?_
  refine z_ic ki_4 dL_areObjects_1 ?_
  refine z_aload dL_areObjects_2 rfl rfl ?_
  refine z_ic ki_1 dL_areObjects_4 ?_
  refine z_iaload dL_areObjects_5 (WA_3 h) rfl (by decide) (by decide) ?_
  rw [g3]
  refine z_ic ki_0 dL_areObjects_6 ?_
  refine z_ic ki_0 dL_areObjects_7 ?_
  refine z_isXQ (dd := mL_versions) dL_areObjects_8 cw_RL_90 rfl ⟨by decide, by decide⟩ (n := 5) (by decide +kernel) (h_versions g hI h (nI σ.ob) (nI 0) (nI 0)) ⟨⟨by decide, by decide⟩, (by first | exact Nat.zero_le _ | decide | omega), (by first | exact Nat.zero_le _ | decide | omega)⟩ rfl rfl (Nat.le_of_ble_eq_true rfl) (fun M8 hQ8 => ?_)
  refine z_bi kb_m30 dL_areObjects_11 ?_
  refine z_icmp_ne (tgt := 47) dL_areObjects_13 (by decide) (fun h13 => absurd h13 (fun q => q e8)) (fun h13 => ?_)
  refine z_aload_n dL_areObjects_16 rfl rfl ?_
  refine z_ic ki_5 dL_areObjects_17 ?_
  refine z_aload dL_areObjects_18 rfl rfl ?_
  refine z_ic ki_1 dL_areObjects_20 ?_
  refine z_iaload dL_areObjects_21 (WA_3 hQ8) rfl (by decide) (by decide) ?_
  rw [g3]
  refine z_ic ki_0 dL_areObjects_22 ?_
  refine z_ic ki_0 dL_areObjects_23 ?_
  refine z_isXQ (dd := mL_versions) dL_areObjects_24 cw_RL_90 rfl ⟨by decide, by decide⟩ (n := 5) (by decide +kernel) (h_unitOf g hI hQ8 (nI σ.ob) (nI 0) (nI 0)) ⟨⟨by decide, by decide⟩, (by first | exact Nat.zero_le _ | decide | omega), (by first | exact Nat.zero_le _ | decide | omega)⟩ rfl rfl (Nat.le_of_ble_eq_true rfl) (fun M24 hQ24 => ?_)
  refine z_bi kb_m30 dL_areObjects_27 ?_
  refine z_icmp_ne (tgt := 47) dL_areObjects_29 (by decide) (fun h29 => absurd h29 (fun q => q e24)) (fun h29 => ?_)
  refine z_aload_n dL_areObjects_32 rfl rfl ?_
  refine z_ic ki_m1 dL_areObjects_33 ?_
  refine z_ic ki_0 dL_areObjects_34 ?_
  refine z_isXQ (dd := mL_reads) dL_areObjects_35 cw_RL_92 rfl ⟨by decide, by decide⟩ (n := 3) (by decide +kernel) (h_read g hI hQ24 (-1) (nI 0)) ⟨⟨by decide, by decide⟩, (by first | exact Nat.zero_le _ | decide | omega), (by first | exact Nat.zero_le _ | decide | omega)⟩ rfl rfl (Nat.le_of_ble_eq_true rfl) (fun M35 hQ35 => ?_)
  refine z_ldc dL_areObjects_38 lc_RL_56 ?_
  refine z_icmp_ne (tgt := 47) dL_areObjects_40 (by decide) (fun h40 => absurd h40 (fun q => q e35)) (fun h40 => ?_)
  refine z_ic ki_1 dL_areObjects_43 ?_
  refine z_goto (tgt := 48) dL_areObjects_44 (by decide) ?_
  refine z_istore dL_areObjects_48 (by decide) ?_
  refine z_ic ki_0 dL_areObjects_50 ?_
  refine z_istore dL_areObjects_51 (by decide) ?_
  exact (LO 0 (by omega) _ _ hQ35 rfl).wk (by omega) (by omega)
end AREO
