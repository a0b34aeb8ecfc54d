/-! the law's steps: risks and conversions -/
section STEPG
variable (g : GG) {A0 : Nat → Nat → Nat} {B : Nat} {σ : ST} {ar : Nat → Nat → Int32} {dm tg : Bool} {M : Mem}
theorem c_L_isFormat1 (hI : INV B σ) (hP : PI σ dm tg) (hR : LR σ ar dm tg) (hE : LE σ ar 1000) (h : WA g A0 σ ar M) {one two three : Nat} (h1 : one < 2 ^ 31) (h2 : two < 2 ^ 31) (h3 : three < 2 ^ 31) : con g mL_isFormat 5 30 [.ref (A0 0 0), .ref (A0 20 1), .ref (A0 20 3), .int (nI 1), .int (nI one), .int (nI two), .int (nI three)] M (rQ (some (.int (nI 1))) (JQ g A0 B)) := by
  refine con_i ?_ (by decide) rfl rfl (by simp [lv_args, Value.category]) (by simp [lv_args, lnd, Value.category])
  have hR2 := hR
  obtain ⟨g1, ⟨g2, g3, g4, g5, g6⟩, g7, g8, g9⟩ := hR2
  have h8 := hI.li.1
  have hz : ¬ nI (σ.fo + 1) = 0 := nI_ne0 (by omega) (by omega)
  have e1 : nI one - nI one / nI (σ.fo + 1) * nI (σ.fo + 1) = nI (one % (σ.fo + 1)) := pk_rem h1 (by omega) (by omega)
  have e3 : nI three - nI three / nI (σ.fo + 1) * nI (σ.fo + 1) = nI (three % (σ.fo + 1)) := pk_rem h3 (by omega) (by omega)
  have e2 : nI two - nI two / nI 102 * nI 102 = nI (two % 102) := pk_rem h2 (by decide) (by decide)
  have l1 : one % (σ.fo + 1) < σ.fo + 1 := Nat.mod_lt _ (by omega)
  have l3 : three % (σ.fo + 1) < σ.fo + 1 := Nat.mod_lt _ (by omega)
  have l2 : two % 102 < 102 := Nat.mod_lt _ (by decide)
  generalize one % (σ.fo + 1) = f at e1 l1
  generalize three % (σ.fo + 1) = t at e3 l3
  generalize two % 102 = r at e2 l2
  have ef : tN (nI f) = f := nI_clamp (by omega)
  -- nothing is set
  have bad : ∀ (x10 : Int32), x10 < 0 → (tl (o_setRisk σ (nI f) (nI r)) (-20) (-30) (-30) = x10) → (o_setRisk σ (nI f) (nI r)).2.2 = σ → tri g mL_isFormat 5 30 (rQ (some (.int (nI 1))) (JQ g A0 B)) M 150 [(0, .ref (A0 0 0)), (1, .ref (A0 20 1)), (2, .ref (A0 20 3)), (3, .int (nI 1)), (4, .int (nI one)), (5, .int (nI two)), (6, .int (nI three)), (7, .int (nI f)), (8, .int (nI t)), (9, .int (nI r)), (10, .int x10)] [] := by
    intro x10 hx ht ho
    by_cases hf8 : f < 8
    · have hw1 := WA_p1 h (6 + f) (ar 1 (6 + f))
      rw [f2_id] at hw1
      refine z_aload_n dL_isFormat_150 rfl rfl ?_
      refine z_bi kb_6 dL_isFormat_151 ?_
      refine z_iload dL_isFormat_153 rfl ?_
      refine z_bi kb_8 dL_isFormat_155 ?_
      refine z_icmp_ge (tgt := 165) dL_isFormat_157 (by decide) (fun h157 => absurd h157 (nI_ge hf8 (by decide))) (fun h157 => ?_)
      refine z_iload dL_isFormat_160 rfl ?_
      refine z_goto (tgt := 166) dL_isFormat_162 (by decide) ?_
      refine z_iadd dL_isFormat_166 ?_
      refine z_iload dL_isFormat_167 rfl ?_
      refine z_if_ge (tgt := 193) dL_isFormat_169 (by decide) (fun h169 => absurd h169 (Int32.not_le.mpr hx)) (fun h169 => ?_)
      refine z_aload_n dL_isFormat_172 rfl rfl ?_
      refine z_bi kb_6 dL_isFormat_173 ?_
      refine z_iload dL_isFormat_175 rfl ?_
      refine z_bi kb_8 dL_isFormat_177 ?_
      refine z_icmp_ge (tgt := 187) dL_isFormat_179 (by decide) (fun h179 => absurd h179 (nI_ge hf8 (by decide))) (fun h179 => ?_)
      refine z_iload dL_isFormat_182 rfl ?_
      refine z_goto (tgt := 188) dL_isFormat_184 (by decide) ?_
      refine z_iadd dL_isFormat_188 ?_
      refine z_iaload dL_isFormat_189 (WA_1 h) (nI_add 6 f) (by omega) (by decide) ?_
      refine z_goto (tgt := 195) dL_isFormat_190 (by decide) ?_
      refine z_iastore dL_isFormat_195 (WA_1 h) (nI_add 6 f) (by omega) (by decide) ?_
      refine z_aload_n dL_isFormat_196 rfl rfl ?_
      refine z_ic ki_1 dL_isFormat_197 ?_
      refine z_iload dL_isFormat_198 rfl ?_
      refine z_iload dL_isFormat_200 rfl ?_
      refine z_ic ki_0 dL_isFormat_202 ?_
      refine z_isXQ (dd := mL_formats) dL_isFormat_203 cw_RL_96 rfl ⟨by decide, by decide⟩ (n := 5) (by decide +kernel) (h_setRisk g hI hw1 (nI f) (nI r) (nI 0)) ⟨⟨by decide, by decide⟩, (by first | exact Nat.zero_le _ | decide | omega), (by first | exact Nat.zero_le _ | decide | omega)⟩ rfl rfl (Nat.le_of_ble_eq_true rfl) (fun M203 hQ203 => ?_)
      refine z_iload dL_isFormat_206 rfl ?_
      refine z_icmp_ne (tgt := 215) dL_isFormat_208 (by decide) (fun h208 => absurd h208 (fun q => q ht)) (fun h208 => ?_)
      refine z_ic ki_1 dL_isFormat_211 ?_
      refine z_goto (tgt := 216) dL_isFormat_212 (by decide) ?_
      refine z_ireturn dL_isFormat_216 rfl (by first | rfl | exact bI_nar _) ?_
      exact rQ_of (JQ_same hP hR hE ho hQ203)
    · have hw1 := WA_p1 h 6 (ar 1 6)
      rw [f2_id] at hw1
      refine z_aload_n dL_isFormat_150 rfl rfl ?_
      refine z_bi kb_6 dL_isFormat_151 ?_
      refine z_iload dL_isFormat_153 rfl ?_
      refine z_bi kb_8 dL_isFormat_155 ?_
      refine z_icmp_ge (tgt := 165) dL_isFormat_157 (by decide) (fun h157 => ?_) (fun h157 => absurd (nI_le (by omega) (by omega)) h157)
      refine z_ic ki_0 dL_isFormat_165 ?_
      refine z_iadd dL_isFormat_166 ?_
      refine z_iload dL_isFormat_167 rfl ?_
      refine z_if_ge (tgt := 193) dL_isFormat_169 (by decide) (fun h169 => absurd h169 (Int32.not_le.mpr hx)) (fun h169 => ?_)
      refine z_aload_n dL_isFormat_172 rfl rfl ?_
      refine z_bi kb_6 dL_isFormat_173 ?_
      refine z_iload dL_isFormat_175 rfl ?_
      refine z_bi kb_8 dL_isFormat_177 ?_
      refine z_icmp_ge (tgt := 187) dL_isFormat_179 (by decide) (fun h179 => ?_) (fun h179 => absurd (nI_le (by omega) (by omega)) h179)
      refine z_ic ki_0 dL_isFormat_187 ?_
      refine z_iadd dL_isFormat_188 ?_
      refine z_iaload dL_isFormat_189 (WA_1 h) (nI_add 6 0) (by decide) (by decide) ?_
      refine z_goto (tgt := 195) dL_isFormat_190 (by decide) ?_
      refine z_iastore dL_isFormat_195 (WA_1 h) (nI_add 6 0) (by decide) (by decide) ?_
      refine z_aload_n dL_isFormat_196 rfl rfl ?_
      refine z_ic ki_1 dL_isFormat_197 ?_
      refine z_iload dL_isFormat_198 rfl ?_
      refine z_iload dL_isFormat_200 rfl ?_
      refine z_ic ki_0 dL_isFormat_202 ?_
      refine z_isXQ (dd := mL_formats) dL_isFormat_203 cw_RL_96 rfl ⟨by decide, by decide⟩ (n := 5) (by decide +kernel) (h_setRisk g hI hw1 (nI f) (nI r) (nI 0)) ⟨⟨by decide, by decide⟩, (by first | exact Nat.zero_le _ | decide | omega), (by first | exact Nat.zero_le _ | decide | omega)⟩ rfl rfl (Nat.le_of_ble_eq_true rfl) (fun M203 hQ203 => ?_)
      refine z_iload dL_isFormat_206 rfl ?_
      refine z_icmp_ne (tgt := 215) dL_isFormat_208 (by decide) (fun h208 => absurd h208 (fun q => q ht)) (fun h208 => ?_)
      refine z_ic ki_1 dL_isFormat_211 ?_
      refine z_goto (tgt := 216) dL_isFormat_212 (by decide) ?_
      refine z_ireturn dL_isFormat_216 rfl (by first | rfl | exact bI_nar _) ?_
      exact rQ_of (JQ_same hP hR hE ho hQ203)
  by_cases hr1 : r ≤ 100
  · by_cases hf : f = σ.fo
    · have eo : o_setRisk σ (nI f) (nI r) = (2, nI 0, σ) := by
        unfold o_setRisk
        rw [if_pos (inK_n hr1), hf, inR_no (by omega) (by omega) (Nat.le_refl _), if_neg (by decide)]
      refine z_iload_n dL_isFormat_0 rfl ?_
      refine z_if_ne (tgt := 84) dL_isFormat_1 (by decide) (fun h1 => ?_) (fun h1 => absurd h1 (by decide))
      refine z_iload dL_isFormat_84 rfl ?_
      refine z_aload_n dL_isFormat_86 rfl rfl ?_
      refine z_ic ki_0 dL_isFormat_87 ?_
      refine z_iaload dL_isFormat_88 (WA_3 h) rfl (by decide) (by decide) ?_
      refine z_ic ki_1 dL_isFormat_89 ?_
      refine z_iadd dL_isFormat_90 ?_
      rw [g2, nI_add]
      refine z_irem dL_isFormat_91 hz ?_
      rw [e1]
      refine z_istore dL_isFormat_92 (by decide) ?_
      refine z_iload dL_isFormat_94 rfl ?_
      refine z_aload_n dL_isFormat_96 rfl rfl ?_
      refine z_ic ki_0 dL_isFormat_97 ?_
      refine z_iaload dL_isFormat_98 (WA_3 h) rfl (by decide) (by decide) ?_
      refine z_ic ki_1 dL_isFormat_99 ?_
      refine z_iadd dL_isFormat_100 ?_
      rw [g2, nI_add]
      refine z_irem dL_isFormat_101 hz ?_
      rw [e3]
      refine z_istore dL_isFormat_102 (by decide) ?_
      refine z_iload_n dL_isFormat_104 rfl ?_
      refine z_ic ki_1 dL_isFormat_105 ?_
      refine z_icmp_ne (tgt := 217) dL_isFormat_106 (by decide) (fun h106 => absurd h106 (fun q => q rfl)) (fun h106 => ?_)
      refine z_iload dL_isFormat_109 rfl ?_
      refine z_bi kb_102 dL_isFormat_111 ?_
      refine z_irem dL_isFormat_113 (by decide) ?_
      rw [e2]
      refine z_istore dL_isFormat_114 (by decide) ?_
      refine z_iload dL_isFormat_116 rfl ?_
      refine z_bi kb_100 dL_isFormat_118 ?_
      refine z_icmp_le (tgt := 128) dL_isFormat_120 (by decide) (fun h120 => ?_) (fun h120 => absurd (nI_le hr1 (by decide)) h120)
      refine z_iload dL_isFormat_128 rfl ?_
      refine z_aload_n dL_isFormat_130 rfl rfl ?_
      refine z_ic ki_0 dL_isFormat_131 ?_
      refine z_iaload dL_isFormat_132 (WA_3 h) rfl (by decide) (by decide) ?_
      rw [g2, hf]
      refine z_icmp_ne (tgt := 141) dL_isFormat_133 (by decide) (fun h133 => absurd h133 (fun q => q rfl)) (fun h133 => ?_)
      refine z_bi kb_m30 dL_isFormat_136 ?_
      refine z_goto (tgt := 148) dL_isFormat_138 (by decide) ?_
      refine z_istore dL_isFormat_148 (by decide) ?_
      rw [← hf]
      exact bad (-30) (by decide) (tl_2 (by rw [eo])) (by rw [eo])
    · have eo : o_setRisk σ (nI f) (nI r) = (0, σ.i 0 f, σ.si 0 f (nI r)) := by
        unfold o_setRisk
        rw [if_pos (inK_n hr1), inR_nI (by omega) (by omega), if_pos rfl, ef]
      obtain ⟨k7, k7b⟩ := g7 f (by omega)
      have hpos : 0 ≤ σ.i 0 f := (of_decide_eq_true k7b).1
      have hw1 := WA_p1 h (6 + f) (nI r)
      refine z_iload_n dL_isFormat_0 rfl ?_
      refine z_if_ne (tgt := 84) dL_isFormat_1 (by decide) (fun h1 => ?_) (fun h1 => absurd h1 (by decide))
      refine z_iload dL_isFormat_84 rfl ?_
      refine z_aload_n dL_isFormat_86 rfl rfl ?_
      refine z_ic ki_0 dL_isFormat_87 ?_
      refine z_iaload dL_isFormat_88 (WA_3 h) rfl (by decide) (by decide) ?_
      refine z_ic ki_1 dL_isFormat_89 ?_
      refine z_iadd dL_isFormat_90 ?_
      rw [g2, nI_add]
      refine z_irem dL_isFormat_91 hz ?_
      rw [e1]
      refine z_istore dL_isFormat_92 (by decide) ?_
      refine z_iload dL_isFormat_94 rfl ?_
      refine z_aload_n dL_isFormat_96 rfl rfl ?_
      refine z_ic ki_0 dL_isFormat_97 ?_
      refine z_iaload dL_isFormat_98 (WA_3 h) rfl (by decide) (by decide) ?_
      refine z_ic ki_1 dL_isFormat_99 ?_
      refine z_iadd dL_isFormat_100 ?_
      rw [g2, nI_add]
      refine z_irem dL_isFormat_101 hz ?_
      rw [e3]
      refine z_istore dL_isFormat_102 (by decide) ?_
      refine z_iload_n dL_isFormat_104 rfl ?_
      refine z_ic ki_1 dL_isFormat_105 ?_
      refine z_icmp_ne (tgt := 217) dL_isFormat_106 (by decide) (fun h106 => absurd h106 (fun q => q rfl)) (fun h106 => ?_)
      refine z_iload dL_isFormat_109 rfl ?_
      refine z_bi kb_102 dL_isFormat_111 ?_
      refine z_irem dL_isFormat_113 (by decide) ?_
      rw [e2]
      refine z_istore dL_isFormat_114 (by decide) ?_
      refine z_iload dL_isFormat_116 rfl ?_
      refine z_bi kb_100 dL_isFormat_118 ?_
      refine z_icmp_le (tgt := 128) dL_isFormat_120 (by decide) (fun h120 => ?_) (fun h120 => absurd (nI_le hr1 (by decide)) h120)
      refine z_iload dL_isFormat_128 rfl ?_
      refine z_aload_n dL_isFormat_130 rfl rfl ?_
      refine z_ic ki_0 dL_isFormat_131 ?_
      refine z_iaload dL_isFormat_132 (WA_3 h) rfl (by decide) (by decide) ?_
      rw [g2]
      refine z_icmp_ne (tgt := 141) dL_isFormat_133 (by decide) (fun h133 => ?_) (fun h133 => absurd h133 (fun q => hf ((nI_eq (by omega) (by omega)).mp q)))
      refine z_aload_n dL_isFormat_141 rfl rfl ?_
      refine z_bi kb_6 dL_isFormat_142 ?_
      refine z_iload dL_isFormat_144 rfl ?_
      refine z_iadd dL_isFormat_146 ?_
      refine z_iaload dL_isFormat_147 (WA_1 h) (nI_add 6 f) (by omega) (by decide) ?_
      rw [k7]
      refine z_istore dL_isFormat_148 (by decide) ?_
      refine z_aload_n dL_isFormat_150 rfl rfl ?_
      refine z_bi kb_6 dL_isFormat_151 ?_
      refine z_iload dL_isFormat_153 rfl ?_
      refine z_bi kb_8 dL_isFormat_155 ?_
      refine z_icmp_ge (tgt := 165) dL_isFormat_157 (by decide) (fun h157 => absurd h157 (nI_ge (by omega) (by decide))) (fun h157 => ?_)
      refine z_iload dL_isFormat_160 rfl ?_
      refine z_goto (tgt := 166) dL_isFormat_162 (by decide) ?_
      refine z_iadd dL_isFormat_166 ?_
      refine z_iload dL_isFormat_167 rfl ?_
      refine z_if_ge (tgt := 193) dL_isFormat_169 (by decide) (fun h169 => ?_) (fun h169 => absurd hpos h169)
      refine z_iload dL_isFormat_193 rfl ?_
      refine z_iastore dL_isFormat_195 (WA_1 h) (nI_add 6 f) (by omega) (by decide) ?_
      refine z_aload_n dL_isFormat_196 rfl rfl ?_
      refine z_ic ki_1 dL_isFormat_197 ?_
      refine z_iload dL_isFormat_198 rfl ?_
      refine z_iload dL_isFormat_200 rfl ?_
      refine z_ic ki_0 dL_isFormat_202 ?_
      refine z_isXQ (dd := mL_formats) dL_isFormat_203 cw_RL_96 rfl ⟨by decide, by decide⟩ (n := 5) (by decide +kernel) (h_setRisk g hI hw1 (nI f) (nI r) (nI 0)) ⟨⟨by decide, by decide⟩, (by first | exact Nat.zero_le _ | decide | omega), (by first | exact Nat.zero_le _ | decide | omega)⟩ rfl rfl (Nat.le_of_ble_eq_true rfl) (fun M203 hQ203 => ?_)
      refine z_iload dL_isFormat_206 rfl ?_
      refine z_icmp_ne (tgt := 215) dL_isFormat_208 (by decide) (fun h208 => absurd h208 (fun q => q (by rw [tl_0 (by rw [eo]), eo]))) (fun h208 => ?_)
      refine z_ic ki_1 dL_isFormat_211 ?_
      refine z_goto (tgt := 216) dL_isFormat_212 (by decide) ?_
      refine z_ireturn dL_isFormat_216 rfl (by first | rfl | exact bI_nar _) ?_
      have e0 : ∀ i k, i ≠ 1 → f2 ar 1 (6 + f) (nI r) i k = ar i k := fun i k q1 => by rw [f2_a q1]
      have e1 : ∀ k, f2 ar 1 (6 + f) (nI r) 1 k = if k = 6 + f then nI r else ar 1 k := fun k => by
        unfold f2
        by_cases q : k = 6 + f
        · rw [if_pos ⟨rfl, q⟩, if_pos q]
        · rw [if_neg (fun z => q z.2), if_neg q]
      have hP' : PI (σ.si 0 f (nI r)) dm tg := PI_eq hP rfl rfl (fun _ _ => rfl) (fun _ => rfl) (fun _ => rfl) (fun _ => rfl) (fun _ => rfl) (fun _ _ => rfl) (fun _ _ => rfl)
      have hs : SO σ (σ.si 0 f (nI r)) := ⟨rfl, fun _ => ⟨rfl, rfl, rfl, rfl⟩, fun _ => ⟨rfl, rfl⟩, fun _ => rfl⟩
      refine rQ_of (JQ_so hR hE hs hP' (by rw [eo]) hQ203 ⟨?_, e0 3 1 (by decide), ?_, ?_, ?_⟩ (fun f' hf2 => ?_) (fun j hj => ⟨?_, e0 2 _ (by decide), e0 2 _ (by decide)⟩) (fun w => e0 0 _ (by decide)) (fun w => e0 4 _ (by decide)))
      · rw [e0 3 0 (by decide), g2]
        rfl
      · rw [e0 3 2 (by decide), g4]
        rfl
      · rw [e0 3 3 (by decide), g5]
      · rw [e0 3 4 (by decide), g6]
      · have hf2 : f' < σ.fo := hf2
        rw [e1]
        by_cases q : f' = f
        · rw [q, if_pos rfl]
          have ei : (σ.si 0 f (nI r)).i 0 f = nI r := f2_s
          rw [ei]
          exact ⟨rfl, inK_n hr1⟩
        · rw [if_neg (by omega)]
          have ei : (σ.si 0 f (nI r)).i 0 f' = σ.i 0 f' := f2_n (fun z => q z.2)
          rw [ei]
          exact g7 f' hf2
      · rw [e1, if_neg (by omega)]
  · have eo : o_setRisk σ (nI f) (nI r) = (1, nI 0, σ) := by
      unfold o_setRisk
      rw [inK_no (by omega) (by omega), if_neg (by decide)]
    refine z_iload_n dL_isFormat_0 rfl ?_
    refine z_if_ne (tgt := 84) dL_isFormat_1 (by decide) (fun h1 => ?_) (fun h1 => absurd h1 (by decide))
    refine z_iload dL_isFormat_84 rfl ?_
    refine z_aload_n dL_isFormat_86 rfl rfl ?_
    refine z_ic ki_0 dL_isFormat_87 ?_
    refine z_iaload dL_isFormat_88 (WA_3 h) rfl (by decide) (by decide) ?_
    refine z_ic ki_1 dL_isFormat_89 ?_
    refine z_iadd dL_isFormat_90 ?_
    rw [g2, nI_add]
    refine z_irem dL_isFormat_91 hz ?_
    rw [e1]
    refine z_istore dL_isFormat_92 (by decide) ?_
    refine z_iload dL_isFormat_94 rfl ?_
    refine z_aload_n dL_isFormat_96 rfl rfl ?_
    refine z_ic ki_0 dL_isFormat_97 ?_
    refine z_iaload dL_isFormat_98 (WA_3 h) rfl (by decide) (by decide) ?_
    refine z_ic ki_1 dL_isFormat_99 ?_
    refine z_iadd dL_isFormat_100 ?_
    rw [g2, nI_add]
    refine z_irem dL_isFormat_101 hz ?_
    rw [e3]
    refine z_istore dL_isFormat_102 (by decide) ?_
    refine z_iload_n dL_isFormat_104 rfl ?_
    refine z_ic ki_1 dL_isFormat_105 ?_
    refine z_icmp_ne (tgt := 217) dL_isFormat_106 (by decide) (fun h106 => absurd h106 (fun q => q rfl)) (fun h106 => ?_)
    refine z_iload dL_isFormat_109 rfl ?_
    refine z_bi kb_102 dL_isFormat_111 ?_
    refine z_irem dL_isFormat_113 (by decide) ?_
    rw [e2]
    refine z_istore dL_isFormat_114 (by decide) ?_
    refine z_iload dL_isFormat_116 rfl ?_
    refine z_bi kb_100 dL_isFormat_118 ?_
    refine z_icmp_le (tgt := 128) dL_isFormat_120 (by decide) (fun h120 => absurd h120 (nI_ge (by omega) (by omega))) (fun h120 => ?_)
    refine z_bi kb_m20 dL_isFormat_123 ?_
    refine z_goto (tgt := 148) dL_isFormat_125 (by decide) ?_
    refine z_istore dL_isFormat_148 (by decide) ?_
    exact bad (-20) (by decide) (tl_1 (by rw [eo])) (by rw [eo])
theorem c_L_isFormat2 (hI : INV B σ) (hP : PI σ dm tg) (hR : LR σ ar dm tg) (hE : LE σ ar 1000) (h : WA g A0 σ ar M) {one two three : Nat} (h1 : one < 2 ^ 31) (h2 : two < 2 ^ 31) (h3 : three < 2 ^ 31) : con g mL_isFormat 5 30 [.ref (A0 0 0), .ref (A0 20 1), .ref (A0 20 3), .int (nI 2), .int (nI one), .int (nI two), .int (nI three)] M (rQ (some (.int (nI 1))) (JQ g A0 B)) := by
  refine con_i ?_ (by decide) rfl rfl (by simp [lv_args, Value.category]) (by simp [lv_args, lnd, Value.category])
  have hR2 := hR
  obtain ⟨g1, ⟨g2, g3, g4, g5, g6⟩, g7, g8, g9⟩ := hR2
  have h8 := hI.li.1
  have hz : ¬ nI (σ.fo + 1) = 0 := nI_ne0 (by omega) (by omega)
  have e1 : nI one - nI one / nI (σ.fo + 1) * nI (σ.fo + 1) = nI (one % (σ.fo + 1)) := pk_rem h1 (by omega) (by omega)
  have e3 : nI three - nI three / nI (σ.fo + 1) * nI (σ.fo + 1) = nI (three % (σ.fo + 1)) := pk_rem h3 (by omega) (by omega)
  have e2 : nI two - nI two / nI 102 * nI 102 = nI (two % 102) := pk_rem h2 (by decide) (by decide)
  have l1 : one % (σ.fo + 1) < σ.fo + 1 := Nat.mod_lt _ (by omega)
  have l3 : three % (σ.fo + 1) < σ.fo + 1 := Nat.mod_lt _ (by omega)
  have l2 : two % 102 < 102 := Nat.mod_lt _ (by decide)
  generalize one % (σ.fo + 1) = f at e1 l1
  generalize three % (σ.fo + 1) = t at e3 l3
  generalize two % 102 = r at e2 l2
  have ef : tN (nI f) = f := nI_clamp (by omega)
  have et : tN (nI t) = t := nI_clamp (by omega)
  have hft : nI f = nI t ↔ f = t := nI_eq (by omega) (by omega)
  -- up to what was told
  have go : tri g mL_isFormat 5 30 (rQ (some (.int (nI 1))) (JQ g A0 B)) M 217 [(0, .ref (A0 0 0)), (1, .ref (A0 20 1)), (2, .ref (A0 20 3)), (3, .int (nI 2)), (4, .int (nI one)), (5, .int (nI two)), (6, .int (nI three)), (7, .int (nI f)), (8, .int (nI t))] [] := by
    by_cases hr1 : r ≤ 100
    · by_cases hq : f = t
      · have eo : o_addConversion σ (nI f) (nI t) (nI r) = (1, nI 0, σ) := by
          unfold o_addConversion
          rw [if_neg (fun z => z.2 (by rw [hq]))]
        refine z_iload dL_isFormat_217 rfl ?_
        refine z_bi kb_102 dL_isFormat_219 ?_
        refine z_irem dL_isFormat_221 (by decide) ?_
        rw [e2]
        refine z_istore dL_isFormat_222 (by decide) ?_
        refine z_aload_n dL_isFormat_224 rfl rfl ?_
        refine z_ic ki_2 dL_isFormat_225 ?_
        refine z_iload dL_isFormat_226 rfl ?_
        refine z_iload dL_isFormat_228 rfl ?_
        refine z_iload dL_isFormat_230 rfl ?_
        refine z_isXQ (dd := mL_formats) dL_isFormat_232 cw_RL_96 rfl ⟨by decide, by decide⟩ (n := 5) (by decide +kernel) (h_addConversion g hI h (nI f) (nI t) (nI r)) ⟨⟨by decide, by decide⟩, (by first | exact Nat.zero_le _ | decide | omega), (by first | exact Nat.zero_le _ | decide | omega)⟩ rfl rfl (Nat.le_of_ble_eq_true rfl) (fun M232 hQ232 => ?_)
        refine z_istore dL_isFormat_235 (by decide) ?_
        refine z_iload dL_isFormat_237 rfl ?_
        refine z_bi kb_100 dL_isFormat_239 ?_
        refine z_icmp_gt (tgt := 251) dL_isFormat_241 (by decide) (fun h241 => absurd h241 (nI_nlt hr1 (by decide))) (fun h241 => ?_)
        refine z_iload dL_isFormat_244 rfl ?_
        refine z_iload dL_isFormat_246 rfl ?_
        refine z_icmp_ne (tgt := 264) dL_isFormat_248 (by decide) (fun h248 => absurd h248 (fun q => q (by rw [hq]))) (fun h248 => ?_)
        refine z_iload dL_isFormat_251 rfl ?_
        refine z_bi kb_m20 dL_isFormat_253 ?_
        refine z_icmp_ne (tgt := 262) dL_isFormat_255 (by decide) (fun h255 => absurd h255 (fun q => q (tl_1 (by rw [eo])))) (fun h255 => ?_)
        refine z_ic ki_1 dL_isFormat_258 ?_
        refine z_goto (tgt := 263) dL_isFormat_259 (by decide) ?_
        refine z_ireturn dL_isFormat_263 rfl (by first | rfl | exact bI_nar _) ?_
        exact rQ_of (JQ_same hP hR hE (by rw [eo]) hQ232)
      · have hne : ¬ nI f = nI t := fun z => hq (hft.mp z)
        by_cases hfo : f = σ.fo ∨ t = σ.fo
        · have eo : o_addConversion σ (nI f) (nI t) (nI r) = (2, nI 0, σ) := by
            unfold o_addConversion
            rw [if_pos ⟨inK_n hr1, hne⟩, if_neg (fun z => ?_)]
            rcases hfo with q | q
            · rw [q, inR_no (by omega) (by omega) (Nat.le_refl _)] at z
              cases z.1
            · rw [q, inR_no (by omega) (by omega) (Nat.le_refl _)] at z
              cases z.2
          by_cases hf1 : f = σ.fo
          · skip
            refine z_iload dL_isFormat_217 rfl ?_
            refine z_bi kb_102 dL_isFormat_219 ?_
            refine z_irem dL_isFormat_221 (by decide) ?_
            rw [e2]
            refine z_istore dL_isFormat_222 (by decide) ?_
            refine z_aload_n dL_isFormat_224 rfl rfl ?_
            refine z_ic ki_2 dL_isFormat_225 ?_
            refine z_iload dL_isFormat_226 rfl ?_
            refine z_iload dL_isFormat_228 rfl ?_
            refine z_iload dL_isFormat_230 rfl ?_
            refine z_isXQ (dd := mL_formats) dL_isFormat_232 cw_RL_96 rfl ⟨by decide, by decide⟩ (n := 5) (by decide +kernel) (h_addConversion g hI h (nI f) (nI t) (nI r)) ⟨⟨by decide, by decide⟩, (by first | exact Nat.zero_le _ | decide | omega), (by first | exact Nat.zero_le _ | decide | omega)⟩ rfl rfl (Nat.le_of_ble_eq_true rfl) (fun M232 hQ232 => ?_)
            have hj := JQ_same hP hR hE (by rw [eo]) hQ232
            obtain ⟨τ, i1, s1, w1⟩ := hQ232
            refine z_istore dL_isFormat_235 (by decide) ?_
            refine z_iload dL_isFormat_237 rfl ?_
            refine z_bi kb_100 dL_isFormat_239 ?_
            refine z_icmp_gt (tgt := 251) dL_isFormat_241 (by decide) (fun h241 => absurd h241 (nI_nlt hr1 (by decide))) (fun h241 => ?_)
            refine z_iload dL_isFormat_244 rfl ?_
            refine z_iload dL_isFormat_246 rfl ?_
            refine z_icmp_ne (tgt := 264) dL_isFormat_248 (by decide) (fun h248 => ?_) (fun h248 => absurd h248 hne)
            refine z_iload dL_isFormat_264 rfl ?_
            refine z_aload_n dL_isFormat_266 rfl rfl ?_
            refine z_ic ki_0 dL_isFormat_267 ?_
            refine z_iaload dL_isFormat_268 (WA_3 w1) rfl (by decide) (by decide) ?_
            rw [g2]
            refine z_icmp_eq (tgt := 280) dL_isFormat_269 (by decide) (fun h269 => ?_) (fun h269 => absurd (by rw [hf1]) h269)
            refine z_iload dL_isFormat_280 rfl ?_
            refine z_bi kb_m30 dL_isFormat_282 ?_
            refine z_icmp_ne (tgt := 291) dL_isFormat_284 (by decide) (fun h284 => absurd h284 (fun q => q (tl_2 (by rw [eo])))) (fun h284 => ?_)
            refine z_ic ki_1 dL_isFormat_287 ?_
            refine z_goto (tgt := 328) dL_isFormat_288 (by decide) ?_
            refine z_ireturn dL_isFormat_328 rfl (by first | rfl | exact bI_nar _) ?_
            exact rQ_of hj
          · have ht1 : t = σ.fo := hfo.resolve_left hf1
            refine z_iload dL_isFormat_217 rfl ?_
            refine z_bi kb_102 dL_isFormat_219 ?_
            refine z_irem dL_isFormat_221 (by decide) ?_
            rw [e2]
            refine z_istore dL_isFormat_222 (by decide) ?_
            refine z_aload_n dL_isFormat_224 rfl rfl ?_
            refine z_ic ki_2 dL_isFormat_225 ?_
            refine z_iload dL_isFormat_226 rfl ?_
            refine z_iload dL_isFormat_228 rfl ?_
            refine z_iload dL_isFormat_230 rfl ?_
            refine z_isXQ (dd := mL_formats) dL_isFormat_232 cw_RL_96 rfl ⟨by decide, by decide⟩ (n := 5) (by decide +kernel) (h_addConversion g hI h (nI f) (nI t) (nI r)) ⟨⟨by decide, by decide⟩, (by first | exact Nat.zero_le _ | decide | omega), (by first | exact Nat.zero_le _ | decide | omega)⟩ rfl rfl (Nat.le_of_ble_eq_true rfl) (fun M232 hQ232 => ?_)
            have hj := JQ_same hP hR hE (by rw [eo]) hQ232
            obtain ⟨τ, i1, s1, w1⟩ := hQ232
            refine z_istore dL_isFormat_235 (by decide) ?_
            refine z_iload dL_isFormat_237 rfl ?_
            refine z_bi kb_100 dL_isFormat_239 ?_
            refine z_icmp_gt (tgt := 251) dL_isFormat_241 (by decide) (fun h241 => absurd h241 (nI_nlt hr1 (by decide))) (fun h241 => ?_)
            refine z_iload dL_isFormat_244 rfl ?_
            refine z_iload dL_isFormat_246 rfl ?_
            refine z_icmp_ne (tgt := 264) dL_isFormat_248 (by decide) (fun h248 => ?_) (fun h248 => absurd h248 hne)
            refine z_iload dL_isFormat_264 rfl ?_
            refine z_aload_n dL_isFormat_266 rfl rfl ?_
            refine z_ic ki_0 dL_isFormat_267 ?_
            refine z_iaload dL_isFormat_268 (WA_3 w1) rfl (by decide) (by decide) ?_
            rw [g2]
            refine z_icmp_eq (tgt := 280) dL_isFormat_269 (by decide) (fun h269 => absurd h269 (fun q => hf1 ((nI_eq (by omega) (by omega)).mp q))) (fun h269 => ?_)
            refine z_iload dL_isFormat_272 rfl ?_
            refine z_aload_n dL_isFormat_274 rfl rfl ?_
            refine z_ic ki_0 dL_isFormat_275 ?_
            refine z_iaload dL_isFormat_276 (WA_3 w1) rfl (by decide) (by decide) ?_
            rw [g2]
            refine z_icmp_ne (tgt := 295) dL_isFormat_277 (by decide) (fun h277 => absurd h277 (fun q => q (by rw [ht1]))) (fun h277 => ?_)
            refine z_iload dL_isFormat_280 rfl ?_
            refine z_bi kb_m30 dL_isFormat_282 ?_
            refine z_icmp_ne (tgt := 291) dL_isFormat_284 (by decide) (fun h284 => absurd h284 (fun q => q (tl_2 (by rw [eo])))) (fun h284 => ?_)
            refine z_ic ki_1 dL_isFormat_287 ?_
            refine z_goto (tgt := 328) dL_isFormat_288 (by decide) ?_
            refine z_ireturn dL_isFormat_328 rfl (by first | rfl | exact bI_nar _) ?_
            exact rQ_of hj
        · have lf : f < σ.fo := by omega
          have lt : t < σ.fo := by omega
          have eo : o_addConversion σ (nI f) (nI t) (nI r) = (0, way (σ.sl f t (nI r)) f t / nI 100, σ.sl f t (nI r)) := by
            unfold o_addConversion
            rw [if_pos ⟨inK_n hr1, hne⟩, if_pos ⟨inR_nI (by omega) lf, inR_nI (by omega) lt⟩, ef, et]
          have e232 : tl (o_addConversion σ (nI f) (nI t) (nI r)) (-20) (-30) (-30) = way (σ.sl f t (nI r)) f t / nI 100 := by rw [tl_0 (by rw [eo]), eo]
          have hP' : PI (σ.sl f t (nI r)) dm tg := PI_eq hP rfl rfl (fun _ _ => rfl) (fun _ => rfl) (fun _ => rfl) (fun _ => rfl) (fun _ => rfl) (fun _ _ => rfl) (fun _ _ => rfl)
          have hs : SO σ (σ.sl f t (nI r)) := ⟨rfl, fun _ => ⟨rfl, rfl, rfl, rfl⟩, fun _ => ⟨rfl, rfl⟩, fun _ => rfl⟩
          refine z_iload dL_isFormat_217 rfl ?_
          refine z_bi kb_102 dL_isFormat_219 ?_
          refine z_irem dL_isFormat_221 (by decide) ?_
          rw [e2]
          refine z_istore dL_isFormat_222 (by decide) ?_
          refine z_aload_n dL_isFormat_224 rfl rfl ?_
          refine z_ic ki_2 dL_isFormat_225 ?_
          refine z_iload dL_isFormat_226 rfl ?_
          refine z_iload dL_isFormat_228 rfl ?_
          refine z_iload dL_isFormat_230 rfl ?_
          refine z_isXQ (dd := mL_formats) dL_isFormat_232 cw_RL_96 rfl ⟨by decide, by decide⟩ (n := 5) (by decide +kernel) (h_addConversion g hI h (nI f) (nI t) (nI r)) ⟨⟨by decide, by decide⟩, (by first | exact Nat.zero_le _ | decide | omega), (by first | exact Nat.zero_le _ | decide | omega)⟩ rfl rfl (Nat.le_of_ble_eq_true rfl) (fun M232 hQ232 => ?_)
          rw [e232]
          obtain ⟨τ, i1, s1, w1⟩ := hQ232
          rw [eo] at s1
          have el : τ.lo = (σ.sl f t (nI r)).lo := (sim_u s1).2.2.2.2.1
          have en : τ.fo = σ.fo := (sim_u s1).2.2.2.1 0
          have ew : way (σ.sl f t (nI r)) f t = way τ f t := way_lo el.symm f t
          have ell : τ.lo f t = nI r := by rw [el]; exact f2_s
          obtain ⟨d, d1, d2⟩ := way_edge i1.li (a := f) (b := t) (by omega) (by omega) hr1 ell
          have ed : way (σ.sl f t (nI r)) f t / nI 100 = nI (d / 100) := by rw [ew, d1, pk_div (by omega) (by decide) (by decide)]
          rw [ed]
          refine z_istore dL_isFormat_235 (by decide) ?_
          refine z_iload dL_isFormat_237 rfl ?_
          refine z_bi kb_100 dL_isFormat_239 ?_
          refine z_icmp_gt (tgt := 251) dL_isFormat_241 (by decide) (fun h241 => absurd h241 (nI_nlt hr1 (by decide))) (fun h241 => ?_)
          refine z_iload dL_isFormat_244 rfl ?_
          refine z_iload dL_isFormat_246 rfl ?_
          refine z_icmp_ne (tgt := 264) dL_isFormat_248 (by decide) (fun h248 => ?_) (fun h248 => absurd h248 hne)
          refine z_iload dL_isFormat_264 rfl ?_
          refine z_aload_n dL_isFormat_266 rfl rfl ?_
          refine z_ic ki_0 dL_isFormat_267 ?_
          refine z_iaload dL_isFormat_268 (WA_3 w1) rfl (by decide) (by decide) ?_
          rw [g2]
          refine z_icmp_eq (tgt := 280) dL_isFormat_269 (by decide) (fun h269 => absurd h269 (fun q => absurd ((nI_eq (by omega) (by omega)).mp q) (by omega))) (fun h269 => ?_)
          refine z_iload dL_isFormat_272 rfl ?_
          refine z_aload_n dL_isFormat_274 rfl rfl ?_
          refine z_ic ki_0 dL_isFormat_275 ?_
          refine z_iaload dL_isFormat_276 (WA_3 w1) rfl (by decide) (by decide) ?_
          rw [g2]
          refine z_icmp_ne (tgt := 295) dL_isFormat_277 (by decide) (fun h277 => ?_) (fun h277 => absurd h277 (fun q => absurd ((nI_eq (by omega) (by omega)).mp q) (by omega)))
          refine z_iload dL_isFormat_295 rfl ?_
          refine z_if_lt (tgt := 327) dL_isFormat_297 (by decide) (fun h297 => absurd h297 (nI_pos (by omega))) (fun h297 => ?_)
          refine z_iload dL_isFormat_300 rfl ?_
          refine z_iload dL_isFormat_302 rfl ?_
          refine z_icmp_gt (tgt := 327) dL_isFormat_304 (by decide) (fun h304 => absurd h304 (nI_nlt (by omega) (by omega))) (fun h304 => ?_)
          refine z_aload_n dL_isFormat_307 rfl rfl ?_
          refine z_iload dL_isFormat_308 rfl ?_
          refine z_iload dL_isFormat_310 rfl ?_
          refine z_ivW dL_isFormat_312 cv_RL_22 w1 (a_bestF g i1 w1 (by omega) (by omega)) ⟨⟨by decide, by decide⟩, (by first | exact Nat.zero_le _ | decide | omega), (by first | exact Nat.zero_le _ | decide | omega)⟩ rfl rfl (Nat.le_of_ble_eq_true rfl) (fun M312 hQ312 => ?_)
          refine z_bi kb_100 dL_isFormat_315 ?_
          refine z_idiv dL_isFormat_317 (by decide) ?_
          refine z_iload dL_isFormat_318 rfl ?_
          refine z_icmp_ne (tgt := 327) dL_isFormat_320 (by decide) (fun h320 => absurd h320 (fun q => q (by rw [d1, pk_div (by omega) (by decide) (by decide)]))) (fun h320 => ?_)
          refine z_ic ki_1 dL_isFormat_323 ?_
          refine z_goto (tgt := 328) dL_isFormat_324 (by decide) ?_
          refine z_ireturn dL_isFormat_328 rfl (by first | rfl | exact bI_nar _) ?_
          refine rQ_of (JQ_so (o := (0, nI 0, σ.sl f t (nI r))) hR hE hs hP' rfl ⟨τ, i1, s1, hQ312⟩ ⟨g2, rfl, g4, g5, g6⟩ g7 (fun _ _ => ⟨rfl, rfl, rfl⟩) (fun _ => rfl) (fun _ => rfl))
    · have eo : o_addConversion σ (nI f) (nI t) (nI r) = (1, nI 0, σ) := by
        unfold o_addConversion
        rw [if_neg (fun z => by rw [inK_no (by omega) (by omega)] at z; cases z.1)]
      refine z_iload dL_isFormat_217 rfl ?_
      refine z_bi kb_102 dL_isFormat_219 ?_
      refine z_irem dL_isFormat_221 (by decide) ?_
      rw [e2]
      refine z_istore dL_isFormat_222 (by decide) ?_
      refine z_aload_n dL_isFormat_224 rfl rfl ?_
      refine z_ic ki_2 dL_isFormat_225 ?_
      refine z_iload dL_isFormat_226 rfl ?_
      refine z_iload dL_isFormat_228 rfl ?_
      refine z_iload dL_isFormat_230 rfl ?_
      refine z_isXQ (dd := mL_formats) dL_isFormat_232 cw_RL_96 rfl ⟨by decide, by decide⟩ (n := 5) (by decide +kernel) (h_addConversion g hI h (nI f) (nI t) (nI r)) ⟨⟨by decide, by decide⟩, (by first | exact Nat.zero_le _ | decide | omega), (by first | exact Nat.zero_le _ | decide | omega)⟩ rfl rfl (Nat.le_of_ble_eq_true rfl) (fun M232 hQ232 => ?_)
      refine z_istore dL_isFormat_235 (by decide) ?_
      refine z_iload dL_isFormat_237 rfl ?_
      refine z_bi kb_100 dL_isFormat_239 ?_
      refine z_icmp_gt (tgt := 251) dL_isFormat_241 (by decide) (fun h241 => ?_) (fun h241 => absurd (nI_lt (by omega) (by omega)) h241)
      refine z_iload dL_isFormat_251 rfl ?_
      refine z_bi kb_m20 dL_isFormat_253 ?_
      refine z_icmp_ne (tgt := 262) dL_isFormat_255 (by decide) (fun h255 => absurd h255 (fun q => q (tl_1 (by rw [eo])))) (fun h255 => ?_)
      refine z_ic ki_1 dL_isFormat_258 ?_
      refine z_goto (tgt := 263) dL_isFormat_259 (by decide) ?_
      refine z_ireturn dL_isFormat_263 rfl (by first | rfl | exact bI_nar _) ?_
      exact rQ_of (JQ_same hP hR hE (by rw [eo]) hQ232)
  refine z_iload_n dL_isFormat_0 rfl ?_
  refine z_if_ne (tgt := 84) dL_isFormat_1 (by decide) (fun h1 => ?_) (fun h1 => absurd h1 (by decide))
  refine z_iload dL_isFormat_84 rfl ?_
  refine z_aload_n dL_isFormat_86 rfl rfl ?_
  refine z_ic ki_0 dL_isFormat_87 ?_
  refine z_iaload dL_isFormat_88 (WA_3 h) rfl (by decide) (by decide) ?_
  refine z_ic ki_1 dL_isFormat_89 ?_
  refine z_iadd dL_isFormat_90 ?_
  rw [g2, nI_add]
  refine z_irem dL_isFormat_91 hz ?_
  rw [e1]
  refine z_istore dL_isFormat_92 (by decide) ?_
  refine z_iload dL_isFormat_94 rfl ?_
  refine z_aload_n dL_isFormat_96 rfl rfl ?_
  refine z_ic ki_0 dL_isFormat_97 ?_
  refine z_iaload dL_isFormat_98 (WA_3 h) rfl (by decide) (by decide) ?_
  refine z_ic ki_1 dL_isFormat_99 ?_
  refine z_iadd dL_isFormat_100 ?_
  rw [g2, nI_add]
  refine z_irem dL_isFormat_101 hz ?_
  rw [e3]
  refine z_istore dL_isFormat_102 (by decide) ?_
  refine z_iload_n dL_isFormat_104 rfl ?_
  refine z_ic ki_1 dL_isFormat_105 ?_
  refine z_icmp_ne (tgt := 217) dL_isFormat_106 (by decide) (fun h106 => ?_) (fun h106 => absurd h106 (by decide))
  exact go
end STEPG
