/-! the law's look at units -/
theorem bI_1n : bI true = nI 1 := rfl
section AREU
variable (g : GG) {A0 : Nat → Nat → Nat} {B : Nat} {σ : ST} {ar : Nat → Nat → Int32} {dm tg : Bool} {M : Mem}
theorem a_soundU (hI : INV B σ) (h : WA g A0 σ ar M) {k : Nat} (hk : k < 2 ^ 31) (hU : isU σ (nI k) = true) : con g mX5_sound 1 6 [.ref (A0 0 0), .int (nI k)] M (rQ (some (.int (nI (snn σ k 4)))) (WA g A0 σ ar)) := by
  have e : tN (nI k) = k := nI_clamp hk
  refine rO_q (a_sound g hI h (nI k)) ?_ ?_
  · unfold o_sound
    rw [if_pos hU]
  · unfold o_sound
    rw [if_pos hU, e]
theorem c_L_areUnits (hI : INV B σ) (hB : B < 2147483648) (hP : PI σ dm tg) (hR : LR σ ar dm tg) (h : WA g A0 σ ar M) : con g mL_areUnits 131 786 [.ref (A0 0 0), .ref (A0 20 3)] M (rQ (some (.int (nI 1))) (WA g A0 σ ar)) := by
  refine con_i ?_ (by decide) rfl rfl (by simp [lv_args, Value.category]) (by simp [lv_args, lnd, Value.category])
  obtain ⟨g1, ⟨g2, g3, g4, g5, g6⟩, -⟩ := hR
  have hu := un_60 hI g1
  have hcc : ∀ u, cpc σ u 4 ≤ 4 := fun u => cpc_le σ u 4
  have loop : ∀ j, j ≤ 64 → ∀ (M' : Mem) x2 x3 x5, WA g A0 σ ar M' → x2 = nI (uA σ j) → x3 = nI (cA σ j) → x5 = nI j → tri g mL_areUnits (2 * (64 - j) + 1) (12 * (64 - j) + 6) (rQ (some (.int (nI 1))) (WA g A0 σ ar)) M' 41 [(0, .ref (A0 0 0)), (1, .ref (A0 20 3)), (2, .int x2), (3, .int x3), (4, .int (nI 1)), (5, .int x5)] [] := by
    refine lp_up 64 ?_ ?_
    · intro M' x2 x3 x5 hw e2 e3 e5
      subst e2 e3 e5
      have hl := lkn_3 hP.1 σ.un
      have hul := unn_le σ σ.un
      have hua := uA_64 hu
      have hca := cA_le σ 64
      by_cases hc0 : cA σ 64 = 0
      · have hn := nxt_no hI hP g1 hc0
        have eo : o_audit σ (nI 1) = (2, nI 0, σ) := by
          unfold o_audit
          rw [if_pos (by decide), hn]
          rfl
        refine z_iload dL_areUnits_41 rfl ?_
        refine z_bi kb_64 dL_areUnits_43 ?_
        refine z_icmp_ge (tgt := 180) dL_areUnits_45 (by decide) (fun h45 => ?_) (fun h45 => absurd (nI_le (by omega) (by omega)) h45)
        refine z_iload dL_areUnits_180 rfl ?_
        refine z_if_eq (tgt := 231) dL_areUnits_182 (by decide) (fun h182 => absurd h182 (by decide)) (fun h182 => ?_)
        refine z_aload_n dL_areUnits_185 rfl rfl ?_
        refine z_ivW dL_areUnits_186 cv_RL_83 hw (a_units g hI hw) ⟨⟨by decide, by decide⟩, (by first | exact Nat.zero_le _ | decide | omega), (by first | exact Nat.zero_le _ | decide | omega)⟩ rfl rfl (Nat.le_of_ble_eq_true rfl) (fun M186 hQ186 => ?_)
        refine z_iload_n dL_areUnits_189 rfl ?_
        refine z_icmp_ne (tgt := 231) dL_areUnits_190 (by decide) (fun h190 => absurd h190 (fun q => q (by rw [hua]))) (fun h190 => ?_)
        refine z_aload_n dL_areUnits_193 rfl rfl ?_
        refine z_ivW dL_areUnits_194 cv_RL_87 hQ186 (a_lacking g hI hQ186) ⟨⟨by decide, by decide⟩, (by first | exact Nat.zero_le _ | decide | omega), (by first | exact Nat.zero_le _ | decide | omega)⟩ rfl rfl (Nat.le_of_ble_eq_true rfl) (fun M194 hQ194 => ?_)
        refine z_if_lt (tgt := 231) dL_areUnits_197 (by decide) (fun h197 => absurd h197 (nI_pos (by omega))) (fun h197 => ?_)
        refine z_aload_n dL_areUnits_200 rfl rfl ?_
        refine z_ivW dL_areUnits_201 cv_RL_87 hQ194 (a_lacking g hI hQ194) ⟨⟨by decide, by decide⟩, (by first | exact Nat.zero_le _ | decide | omega), (by first | exact Nat.zero_le _ | decide | omega)⟩ rfl rfl (Nat.le_of_ble_eq_true rfl) (fun M201 hQ201 => ?_)
        refine z_ic ki_3 dL_areUnits_204 ?_
        refine z_iload_n dL_areUnits_205 rfl ?_
        refine z_imul dL_areUnits_206 ?_
        rw [pk_mul]
        refine z_icmp_gt (tgt := 231) dL_areUnits_207 (by decide) (fun h207 => absurd h207 (nI_nlt (by omega) (by omega))) (fun h207 => ?_)
        refine z_iload_n dL_areUnits_210 rfl ?_
        refine z_if_gt (tgt := 227) dL_areUnits_211 (by decide) (fun h211 => absurd h211 (by rw [hc0]; decide)) (fun h211 => ?_)
        refine z_aload_n dL_areUnits_214 rfl rfl ?_
        refine z_ic ki_4 dL_areUnits_215 ?_
        refine z_ic ki_1 dL_areUnits_216 ?_
        refine z_ic ki_0 dL_areUnits_217 ?_
        refine z_ic ki_0 dL_areUnits_218 ?_
        refine z_isXQ (dd := mL_copies) dL_areUnits_219 cw_RL_74 rfl ⟨by decide, by decide⟩ (n := 5) (by decide +kernel) (h_auditW g hI hB hQ201 (nI 1) (nI 0) (nI 0)) ⟨⟨by decide, by decide⟩, (by first | exact Nat.zero_le _ | decide | omega), (by first | exact Nat.zero_le _ | decide | omega)⟩ rfl rfl (Nat.le_of_ble_eq_true rfl) (fun M219 hQ219 => ?_)
        refine z_bi kb_m10 dL_areUnits_222 ?_
        refine z_icmp_ne (tgt := 231) dL_areUnits_224 (by decide) (fun h224 => absurd h224 (fun q => q (tl_2 (by rw [eo])))) (fun h224 => ?_)
        refine z_ic ki_1 dL_areUnits_227 ?_
        refine z_goto (tgt := 232) dL_areUnits_228 (by decide) ?_
        refine z_ireturn dL_areUnits_232 rfl (by first | rfl | exact bI_nar _) ?_
        rw [eo] at hQ219
        exact rQ_of hQ219
      · skip
        refine z_iload dL_areUnits_41 rfl ?_
        refine z_bi kb_64 dL_areUnits_43 ?_
        refine z_icmp_ge (tgt := 180) dL_areUnits_45 (by decide) (fun h45 => ?_) (fun h45 => absurd (nI_le (by omega) (by omega)) h45)
        refine z_iload dL_areUnits_180 rfl ?_
        refine z_if_eq (tgt := 231) dL_areUnits_182 (by decide) (fun h182 => absurd h182 (by decide)) (fun h182 => ?_)
        refine z_aload_n dL_areUnits_185 rfl rfl ?_
        refine z_ivW dL_areUnits_186 cv_RL_83 hw (a_units g hI hw) ⟨⟨by decide, by decide⟩, (by first | exact Nat.zero_le _ | decide | omega), (by first | exact Nat.zero_le _ | decide | omega)⟩ rfl rfl (Nat.le_of_ble_eq_true rfl) (fun M186 hQ186 => ?_)
        refine z_iload_n dL_areUnits_189 rfl ?_
        refine z_icmp_ne (tgt := 231) dL_areUnits_190 (by decide) (fun h190 => absurd h190 (fun q => q (by rw [hua]))) (fun h190 => ?_)
        refine z_aload_n dL_areUnits_193 rfl rfl ?_
        refine z_ivW dL_areUnits_194 cv_RL_87 hQ186 (a_lacking g hI hQ186) ⟨⟨by decide, by decide⟩, (by first | exact Nat.zero_le _ | decide | omega), (by first | exact Nat.zero_le _ | decide | omega)⟩ rfl rfl (Nat.le_of_ble_eq_true rfl) (fun M194 hQ194 => ?_)
        refine z_if_lt (tgt := 231) dL_areUnits_197 (by decide) (fun h197 => absurd h197 (nI_pos (by omega))) (fun h197 => ?_)
        refine z_aload_n dL_areUnits_200 rfl rfl ?_
        refine z_ivW dL_areUnits_201 cv_RL_87 hQ194 (a_lacking g hI hQ194) ⟨⟨by decide, by decide⟩, (by first | exact Nat.zero_le _ | decide | omega), (by first | exact Nat.zero_le _ | decide | omega)⟩ rfl rfl (Nat.le_of_ble_eq_true rfl) (fun M201 hQ201 => ?_)
        refine z_ic ki_3 dL_areUnits_204 ?_
        refine z_iload_n dL_areUnits_205 rfl ?_
        refine z_imul dL_areUnits_206 ?_
        rw [pk_mul]
        refine z_icmp_gt (tgt := 231) dL_areUnits_207 (by decide) (fun h207 => absurd h207 (nI_nlt (by omega) (by omega))) (fun h207 => ?_)
        refine z_iload_n dL_areUnits_210 rfl ?_
        refine z_if_gt (tgt := 227) dL_areUnits_211 (by decide) (fun h211 => ?_) (fun h211 => absurd (nI_lt (a := 0) (by omega) (by omega)) h211)
        refine z_ic ki_1 dL_areUnits_227 ?_
        refine z_goto (tgt := 232) dL_areUnits_228 (by decide) ?_
        refine z_ireturn dL_areUnits_232 rfl (by first | rfl | exact bI_nar _) ?_
        exact rQ_of hQ201
    · intro j hj ih M' x2 x3 x5 hw e2 e3 e5
      subst e2 e3 e5
      have ej : tN (nI j) = j := nI_clamp (by omega)
      by_cases hU : isU σ (nI j) = true
      · have e59 : tl (o_sites σ (nI j)) (-30) (-30) (-30) = bset (σ.cp j) 4 := by rw [t_sites, if_pos hU, ej]
        have hsn := snn_le σ j 4
        have hcj := hcc j
        have hsc : ¬ ar 3 3 = nI 1 → snn σ j 4 = cpc σ j 4 := fun q => by
          cases dm with
          | true => exact absurd g5 q
          | false => exact snn_nd hP j 4 (Nat.le_refl _)
        have e2 : nI (uA σ j) + nI 1 = nI (uA σ (j + 1)) := by rw [nI_add, uA_s, if_pos hU]
        have e3 : nI (cA σ j) + nI (cntB (σ.cp j) 4) = nI (cA σ (j + 1)) := by rw [nI_add, cntB_cpc, cA, if_pos hU]
        refine z_iload dL_areUnits_41 rfl ?_
        refine z_bi kb_64 dL_areUnits_43 ?_
        refine z_icmp_ge (tgt := 180) dL_areUnits_45 (by decide) (fun h45 => absurd h45 (nI_ge hj (by omega))) (fun h45 => ?_)
        refine z_iload dL_areUnits_48 rfl ?_
        refine z_if_eq (tgt := 180) dL_areUnits_50 (by decide) (fun h50 => absurd h50 (by decide)) (fun h50 => ?_)
        refine z_aload_n dL_areUnits_53 rfl rfl ?_
        refine z_ic ki_0 dL_areUnits_54 ?_
        refine z_iload dL_areUnits_55 rfl ?_
        refine z_ic ki_0 dL_areUnits_57 ?_
        refine z_ic ki_0 dL_areUnits_58 ?_
        refine z_isXQ (dd := mL_copies) dL_areUnits_59 cw_RL_74 rfl ⟨by decide, by decide⟩ (n := 5) (by decide +kernel) (h_sites g hI hw (nI j) (nI 0) (nI 0)) ⟨⟨by decide, by decide⟩, (by first | exact Nat.zero_le _ | decide | omega), (by first | exact Nat.zero_le _ | decide | omega)⟩ rfl rfl (Nat.le_of_ble_eq_true rfl) (fun M59 hQ59 => ?_)
        rw [e59]
        refine z_istore dL_areUnits_62 (by decide) ?_
        refine z_iload dL_areUnits_64 rfl ?_
        refine z_if_lt (tgt := 146) dL_areUnits_66 (by decide) (fun h66 => absurd h66 (bset4_pos _)) (fun h66 => ?_)
        refine z_aload_n dL_areUnits_69 rfl rfl ?_
        refine z_iload dL_areUnits_70 rfl ?_
        refine z_ivW dL_areUnits_72 cv_RL_61 hQ59 (a_soundU g hI hQ59 (by omega) hU) ⟨⟨by decide, by decide⟩, (by first | exact Nat.zero_le _ | decide | omega), (by first | exact Nat.zero_le _ | decide | omega)⟩ rfl rfl (Nat.le_of_ble_eq_true rfl) (fun M72 hQ72 => ?_)
        refine z_istore dL_areUnits_75 (by decide) ?_
        refine z_inc ki_1 dL_areUnits_77 rfl (by decide) ?_
        refine z_iload_n dL_areUnits_80 rfl ?_
        refine z_iload dL_areUnits_81 rfl ?_
        refine z_isI dL_areUnits_83 cs_RL_80 (c_L_bits4 g (σ.cp j)) ⟨⟨by decide, by decide⟩, (by first | exact Nat.zero_le _ | decide | omega), (by first | exact Nat.zero_le _ | decide | omega)⟩ rfl rfl (Nat.le_of_ble_eq_true rfl) ?_
        refine z_iadd dL_areUnits_86 ?_
        refine z_istore_n dL_areUnits_87 (by decide) ?_
        refine z_iload dL_areUnits_88 rfl ?_
        refine z_bi kb_16 dL_areUnits_90 ?_
        refine z_icmp_ge (tgt := 140) dL_areUnits_92 (by decide) (fun h92 => absurd h92 (bset4_16 _)) (fun h92 => ?_)
        refine z_iload dL_areUnits_95 rfl ?_
        refine z_aload_n dL_areUnits_97 rfl rfl ?_
        refine z_ic ki_2 dL_areUnits_98 ?_
        refine z_iaload dL_areUnits_99 (WA_3 hQ72) rfl (by decide) (by decide) ?_
        refine z_iand dL_areUnits_100 ?_
        refine z_if_ne (tgt := 140) dL_areUnits_101 (by decide) (fun h101 => absurd h101 (fun q => q (by rw [g4]; exact bset4_dis (fun s hs hb => hP.2.2.1 j s hs hb)))) (fun h101 => ?_)
        refine z_iload dL_areUnits_104 rfl ?_
        refine z_if_lt (tgt := 140) dL_areUnits_106 (by decide) (fun h106 => absurd h106 (nI_pos (by omega))) (fun h106 => ?_)
        refine z_iload dL_areUnits_109 rfl ?_
        refine z_iload dL_areUnits_111 rfl ?_
        refine z_isI dL_areUnits_113 cs_RL_80 (c_L_bits4 g (σ.cp j)) ⟨⟨by decide, by decide⟩, (by first | exact Nat.zero_le _ | decide | omega), (by first | exact Nat.zero_le _ | decide | omega)⟩ rfl rfl (Nat.le_of_ble_eq_true rfl) ?_
        refine z_icmp_gt (tgt := 140) dL_areUnits_116 (by decide) (fun h116 => absurd h116 (nI_nlt (by rw [cntB_cpc]; exact hsn) (by rw [cntB_cpc]; omega))) (fun h116 => ?_)
        refine z_aload_n dL_areUnits_119 rfl rfl ?_
        refine z_ic ki_3 dL_areUnits_120 ?_
        refine z_iaload dL_areUnits_121 (WA_3 hQ72) rfl (by decide) (by decide) ?_
        refine z_ic ki_1 dL_areUnits_122 ?_
        refine z_icmp_eq (tgt := 136) dL_areUnits_123 (by decide) (fun h123 => ?_) (fun h123 => ?_)
        · refine z_ic ki_1 dL_areUnits_136 ?_
          refine z_goto (tgt := 141) dL_areUnits_137 (by decide) ?_
          refine z_istore dL_areUnits_141 (by decide) ?_
          refine z_goto (tgt := 174) dL_areUnits_143 (by decide) ?_
          refine z_inc ki_1 dL_areUnits_174 rfl (by decide) ?_
          refine z_goto (tgt := 41) dL_areUnits_177 (by decide) ?_
          refine tri.take 6 ?_
          exact (ih _ _ _ _ hQ72 e2 e3 (nI_add j 1)).wk (by omega) (by omega)
        · refine z_iload dL_areUnits_126 rfl ?_
          refine z_iload dL_areUnits_128 rfl ?_
          refine z_isI dL_areUnits_130 cs_RL_80 (c_L_bits4 g (σ.cp j)) ⟨⟨by decide, by decide⟩, (by first | exact Nat.zero_le _ | decide | omega), (by first | exact Nat.zero_le _ | decide | omega)⟩ rfl rfl (Nat.le_of_ble_eq_true rfl) ?_
          refine z_icmp_ne (tgt := 140) dL_areUnits_133 (by decide) (fun h133 => absurd h133 (fun q => q (by rw [hsc h123, cntB_cpc]))) (fun h133 => ?_)
          refine z_ic ki_1 dL_areUnits_136 ?_
          refine z_goto (tgt := 141) dL_areUnits_137 (by decide) ?_
          refine z_istore dL_areUnits_141 (by decide) ?_
          refine z_goto (tgt := 174) dL_areUnits_143 (by decide) ?_
          refine z_inc ki_1 dL_areUnits_174 rfl (by decide) ?_
          refine z_goto (tgt := 41) dL_areUnits_177 (by decide) ?_
          refine tri.take 6 ?_
          exact (ih _ _ _ _ hQ72 e2 e3 (nI_add j 1)).wk (by omega) (by omega)
      · have e59 : tl (o_sites σ (nI j)) (-30) (-30) (-30) = -30 := by rw [t_sites, if_neg hU]
        have e159 : tl (o_sound σ (nI j)) (-30) (-30) (-30) = -30 := by rw [t_sound, if_neg hU]
        have e2 : nI (uA σ j) = nI (uA σ (j + 1)) := by rw [uA_s, if_neg hU]; rfl
        have e3 : nI (cA σ j) = nI (cA σ (j + 1)) := by rw [cA, if_neg hU]; rfl
        refine z_iload dL_areUnits_41 rfl ?_
        refine z_bi kb_64 dL_areUnits_43 ?_
        refine z_icmp_ge (tgt := 180) dL_areUnits_45 (by decide) (fun h45 => absurd h45 (nI_ge hj (by omega))) (fun h45 => ?_)
        refine z_iload dL_areUnits_48 rfl ?_
        refine z_if_eq (tgt := 180) dL_areUnits_50 (by decide) (fun h50 => absurd h50 (by decide)) (fun h50 => ?_)
        refine z_aload_n dL_areUnits_53 rfl rfl ?_
        refine z_ic ki_0 dL_areUnits_54 ?_
        refine z_iload dL_areUnits_55 rfl ?_
        refine z_ic ki_0 dL_areUnits_57 ?_
        refine z_ic ki_0 dL_areUnits_58 ?_
        refine z_isXQ (dd := mL_copies) dL_areUnits_59 cw_RL_74 rfl ⟨by decide, by decide⟩ (n := 5) (by decide +kernel) (h_sites g hI hw (nI j) (nI 0) (nI 0)) ⟨⟨by decide, by decide⟩, (by first | exact Nat.zero_le _ | decide | omega), (by first | exact Nat.zero_le _ | decide | omega)⟩ rfl rfl (Nat.le_of_ble_eq_true rfl) (fun M59 hQ59 => ?_)
        rw [e59]
        refine z_istore dL_areUnits_62 (by decide) ?_
        refine z_iload dL_areUnits_64 rfl ?_
        refine z_if_lt (tgt := 146) dL_areUnits_66 (by decide) (fun h66 => ?_) (fun h66 => absurd (by decide) h66)
        refine z_iload dL_areUnits_146 rfl ?_
        refine z_bi kb_m30 dL_areUnits_148 ?_
        refine z_icmp_ne (tgt := 171) dL_areUnits_150 (by decide) (fun h150 => absurd h150 (fun q => q rfl)) (fun h150 => ?_)
        refine z_aload_n dL_areUnits_153 rfl rfl ?_
        refine z_ic ki_1 dL_areUnits_154 ?_
        refine z_iload dL_areUnits_155 rfl ?_
        refine z_ic ki_0 dL_areUnits_157 ?_
        refine z_ic ki_0 dL_areUnits_158 ?_
        refine z_isXQ (dd := mL_copies) dL_areUnits_159 cw_RL_74 rfl ⟨by decide, by decide⟩ (n := 5) (by decide +kernel) (h_sound g hI hQ59 (nI j) (nI 0) (nI 0)) ⟨⟨by decide, by decide⟩, (by first | exact Nat.zero_le _ | decide | omega), (by first | exact Nat.zero_le _ | decide | omega)⟩ rfl rfl (Nat.le_of_ble_eq_true rfl) (fun M159 hQ159 => ?_)
        refine z_bi kb_m30 dL_areUnits_162 ?_
        refine z_icmp_ne (tgt := 171) dL_areUnits_164 (by decide) (fun h164 => absurd h164 (fun q => q e159)) (fun h164 => ?_)
        refine z_ic ki_1 dL_areUnits_167 ?_
        refine z_goto (tgt := 172) dL_areUnits_168 (by decide) ?_
        refine z_istore dL_areUnits_172 (by decide) ?_
        refine z_inc ki_1 dL_areUnits_174 rfl (by decide) ?_
        refine z_goto (tgt := 41) dL_areUnits_177 (by decide) ?_
        refine tri.take 6 ?_
        exact (ih _ _ _ _ hQ159 e2 e3 (nI_add j 1)).wk (by omega) (by omega)
  have n1 : isU σ (nI 100) = false := by rw [isU_n (by omega) (by decide), decide_eq_false (by omega), Bool.false_and]
  have e10 : tl (o_sites σ (nI 100)) (-30) (-30) (-30) = -30 := by rw [t_sites, n1, if_neg (by decide)]
  have e23 : tl (o_sound σ (-1)) (-30) (-30) (-30) = -30 := by rw [t_sound, isU_m1, if_neg (by decide)]
  refine z_ic ki_0 dL_areUnits_0 ?_
  refine z_istore_n dL_areUnits_1 (by decide) ?_
  refine z_ic ki_0 dL_areUnits_2 ?_
  refine z_istore_n dL_areUnits_3 (by decide) ?_
  refine z_aload_n dL_areUnits_4 rfl rfl ?_
  refine z_ic ki_0 dL_areUnits_5 ?_
  refine z_bi kb_100 dL_areUnits_6 ?_
  refine z_ic ki_0 dL_areUnits_8 ?_
  refine z_ic ki_0 dL_areUnits_9 ?_
  refine z_isXQ (dd := mL_copies) dL_areUnits_10 cw_RL_74 rfl ⟨by decide, by decide⟩ (n := 5) (by decide +kernel) (h_sites g hI h (nI 100) (nI 0) (nI 0)) ⟨⟨by decide, by decide⟩, (by first | exact Nat.zero_le _ | decide | omega), (by first | exact Nat.zero_le _ | decide | omega)⟩ rfl rfl (Nat.le_of_ble_eq_true rfl) (fun M10 hQ10 => ?_)
  refine z_bi kb_m30 dL_areUnits_13 ?_
  refine z_icmp_ne (tgt := 35) dL_areUnits_15 (by decide) (fun h15 => absurd h15 (fun q => q e10)) (fun h15 => ?_)
  refine z_aload_n dL_areUnits_18 rfl rfl ?_
  refine z_ic ki_1 dL_areUnits_19 ?_
  refine z_ic ki_m1 dL_areUnits_20 ?_
  refine z_ic ki_0 dL_areUnits_21 ?_
  refine z_ic ki_0 dL_areUnits_22 ?_
  refine z_isXQ (dd := mL_copies) dL_areUnits_23 cw_RL_74 rfl ⟨by decide, by decide⟩ (n := 5) (by decide +kernel) (h_sound g hI hQ10 (-1) (nI 0) (nI 0)) ⟨⟨by decide, by decide⟩, (by first | exact Nat.zero_le _ | decide | omega), (by first | exact Nat.zero_le _ | decide | omega)⟩ rfl rfl (Nat.le_of_ble_eq_true rfl) (fun M23 hQ23 => ?_)
  refine z_bi kb_m30 dL_areUnits_26 ?_
  refine z_icmp_ne (tgt := 35) dL_areUnits_28 (by decide) (fun h28 => absurd h28 (fun q => q e23)) (fun h28 => ?_)
  refine z_ic ki_1 dL_areUnits_31 ?_
  refine z_goto (tgt := 36) dL_areUnits_32 (by decide) ?_
  refine z_istore dL_areUnits_36 (by decide) ?_
  refine z_ic ki_0 dL_areUnits_38 ?_
  refine z_istore dL_areUnits_39 (by decide) ?_
  exact (loop 0 (by omega) _ _ _ _ hQ23 rfl rfl rfl).wk (by omega) (by omega)
end AREU
