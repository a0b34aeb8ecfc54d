/-! the law's look at best ways and risks -/
theorem way_1 {σ : ST} (h : LI σ) {a b : Nat} (ha : a < σ.fo) (hb : b < σ.fo) : ¬ way σ a b < -1 ∧ ¬ nI σ.fo ≤ way σ a b - way σ a b / nI 100 * nI 100 ∧ (¬ nI a = nI b → ¬ way σ a b = 0) := by
  have h8 := h.1
  rcases way_is h ha hb with e | ⟨d, e, h1, h2, h3⟩
  · rw [e]
    refine ⟨by decide, fun q => ?_, fun _ => by decide⟩
    have q2 : nI σ.fo ≤ -1 := q
    exact absurd (Int32.le_trans (nI_pos' (n := σ.fo) (by omega)) q2) (by decide)
  · rw [e]
    refine ⟨fun q => ?_, ?_, fun hne => nI_ne0 (h3 (fun q => hne (by rw [q]))) (by omega)⟩
    · exact absurd (Int32.lt_of_le_of_lt (nI_pos' (n := d) (by omega)) q) (by decide)
    · rw [pk_rem (by omega) (by decide) (by decide)]
      exact nI_ge h2 (by omega)
theorem way_3 {σ : ST} (h : LI σ) {a i b : Nat} (ha : a < σ.fo) (hi : i < σ.fo) (hb : b < σ.fo) (h1 : ¬ way σ a i < 0) (h2 : ¬ way σ i b < 0) : ¬ way σ a b < 0 ∧ ¬ way σ a i + way σ i b < way σ a b := by
  have h8 := h.1
  rcases way_is h ha hi with e1 | ⟨d1, e1, l1, -⟩
  · rw [e1] at h1
    exact absurd (by decide) h1
  · rcases way_is h hi hb with e2 | ⟨d2, e2, l2, -⟩
    · rw [e2] at h2
      exact absurd (by decide) h2
    · obtain ⟨d, e, l⟩ := way_tri h (a := a) (i := i) (b := b) (by omega) (by omega) e1 e2 l1 l2
      rw [e, e1, e2, nI_add]
      exact ⟨nI_pos (by omega), nI_nlt l (by omega)⟩
section AREW
variable (g : GG) {A0 : Nat → Nat → Nat} {B : Nat} {σ : ST} {ar : Nat → Nat → Int32} {dm tg : Bool} {M : Mem}
theorem a_bestF (hI : INV B σ) (h : WA g A0 σ ar M) {a b : Nat} (ha : a < σ.fo) (hb : b < σ.fo) : con g mX5_bestWay 2 12 [.ref (A0 0 0), .int (nI a), .int (nI b)] M (rQ (some (.int (way σ a b))) (WA g A0 σ ar)) := by
  have h8 := hI.li.1
  have e1 : tN (nI a) = a := nI_clamp (by omega)
  have e2 : tN (nI b) = b := nI_clamp (by omega)
  have hc : inR σ.fo (nI a) = true ∧ inR σ.fo (nI b) = true := ⟨inR_nI (by omega) ha, inR_nI (by omega) hb⟩
  refine rO_q (a_bestWay g hI h (nI a) (nI b)) ?_ ?_
  · unfold o_bestWay
    rw [if_pos hc]
  · unfold o_bestWay
    rw [if_pos hc, e1, e2]
theorem inK_n {q : Nat} (h : q ≤ 100) : inK 0 100 (nI q) = true := decide_eq_true ⟨nI_le (by omega) (by omega), nI_le h (by decide)⟩
theorem a_atRiskF (hI : INV B σ) (h : WA g A0 σ ar M) {q : Nat} (hq : q ≤ 100) : con g mX5_atRisk 1 6 [.ref (A0 0 0), .int (nI q)] M (rQ (some (.int (bset (riskB σ (nI q)) σ.ob))) (WA g A0 σ ar)) := by
  refine rO_q (a_atRisk g hI h (nI q)) ?_ ?_
  · unfold o_atRisk
    rw [if_pos (inK_n hq)]
  · unfold o_atRisk
    rw [if_pos (inK_n hq)]
theorem c_L_areWays (hI : INV B σ) (hR : LR σ ar dm tg) (h : WA g A0 σ ar M) : con g mL_areWays 2203 13218 [.ref (A0 0 0), .ref (A0 20 1), .ref (A0 20 2), .ref (A0 20 3)] M (rQ (some (.int (nI 1))) (WA g A0 σ ar)) := by
  refine con_i ?_ (by decide) rfl rfl (by simp [lv_args, Value.category]) (by simp [lv_args, lnd, Value.category])
  obtain ⟨g1, ⟨g2, g3, g4, g5, g6⟩, g7, g8, -⟩ := hR
  have h8 := hI.li.1
  -- the innermost loop
  have L3 : ∀ (k j b3 n3 : Nat), k < σ.fo → j < σ.fo → (∀ M', WA g A0 σ ar M' → tri g mL_areWays b3 n3 (rQ (some (.int (nI 1))) (WA g A0 σ ar)) M' 205 [(0, .ref (A0 0 0)), (1, .ref (A0 20 1)), (2, .ref (A0 20 2)), (3, .ref (A0 20 3)), (4, .int (nI 1)), (5, .int (nI k)), (6, .int (nI j))] []) → ∀ i, i ≤ σ.fo → ∀ (M' : Mem) x8, WA g A0 σ ar M' → x8 = nI i → tri g mL_areWays (4 * (8 - i) + b3) (24 * (8 - i) + n3) (rQ (some (.int (nI 1))) (WA g A0 σ ar)) M' 134 [(0, .ref (A0 0 0)), (1, .ref (A0 20 1)), (2, .ref (A0 20 2)), (3, .ref (A0 20 3)), (4, .int (nI 1)), (5, .int (nI k)), (6, .int (nI j)), (7, .int (way σ k j)), (8, .int x8)] [] := by
    intro k j b3 n3 hk hj K
    refine lp_up σ.fo ?_ ?_
    · intro M' x8 hw e8
      subst e8
      refine z_iload dL_areWays_134 rfl ?_
      refine z_aload_n dL_areWays_136 rfl rfl ?_
      refine z_ic ki_0 dL_areWays_137 ?_
      refine z_iaload dL_areWays_138 (WA_3 hw) rfl (by decide) (by decide) ?_
      rw [g2]
      refine z_icmp_ge (tgt := 205) dL_areWays_139 (by decide) (fun h139 => ?_) (fun h139 => absurd (nI_le (by omega) (by omega)) h139)
      refine tri.take 7 ?_
      exact (K _ hw).wk (by omega) (by omega)
    · intro i hi ih M' x8 hw e8
      subst e8
      refine z_iload dL_areWays_134 rfl ?_
      refine z_aload_n dL_areWays_136 rfl rfl ?_
      refine z_ic ki_0 dL_areWays_137 ?_
      refine z_iaload dL_areWays_138 (WA_3 hw) rfl (by decide) (by decide) ?_
      rw [g2]
      refine z_icmp_ge (tgt := 205) dL_areWays_139 (by decide) (fun h139 => absurd h139 (nI_ge hi (by omega))) (fun h139 => ?_)
      refine z_iload dL_areWays_142 rfl ?_
      refine z_if_eq (tgt := 205) dL_areWays_144 (by decide) (fun h144 => absurd h144 (by decide)) (fun h144 => ?_)
      refine z_aload_n dL_areWays_147 rfl rfl ?_
      refine z_iload dL_areWays_148 rfl ?_
      refine z_iload dL_areWays_150 rfl ?_
      refine z_ivW dL_areWays_152 cv_RL_22 hw (a_bestF g hI hw hk hi) ⟨⟨by decide, by decide⟩, (by first | exact Nat.zero_le _ | decide | omega), (by first | exact Nat.zero_le _ | decide | omega)⟩ rfl rfl (Nat.le_of_ble_eq_true rfl) (fun M152 hQ152 => ?_)
      refine z_istore dL_areWays_155 (by decide) ?_
      refine z_aload_n dL_areWays_157 rfl rfl ?_
      refine z_iload dL_areWays_158 rfl ?_
      refine z_iload dL_areWays_160 rfl ?_
      refine z_ivW dL_areWays_162 cv_RL_22 hQ152 (a_bestF g hI hQ152 hi hj) ⟨⟨by decide, by decide⟩, (by first | exact Nat.zero_le _ | decide | omega), (by first | exact Nat.zero_le _ | decide | omega)⟩ rfl rfl (Nat.le_of_ble_eq_true rfl) (fun M162 hQ162 => ?_)
      refine z_istore dL_areWays_165 (by decide) ?_
      refine z_iload dL_areWays_167 rfl ?_
      refine z_if_lt (tgt := 192) dL_areWays_169 (by decide) (fun h169 => ?_) (fun h169 => ?_)
      · refine z_ic ki_1 dL_areWays_192 ?_
        refine z_goto (tgt := 197) dL_areWays_193 (by decide) ?_
        refine z_istore dL_areWays_197 (by decide) ?_
        refine z_inc ki_1 dL_areWays_199 rfl (by decide) ?_
        refine z_goto (tgt := 134) dL_areWays_202 (by decide) ?_
        refine tri.take 9 ?_
        exact (ih _ _ hQ162 (nI_add i 1)).wk (by omega) (by omega)
      · refine z_iload dL_areWays_172 rfl ?_
        refine z_if_lt (tgt := 192) dL_areWays_174 (by decide) (fun h174 => ?_) (fun h174 => ?_)
        · refine z_ic ki_1 dL_areWays_192 ?_
          refine z_goto (tgt := 197) dL_areWays_193 (by decide) ?_
          refine z_istore dL_areWays_197 (by decide) ?_
          refine z_inc ki_1 dL_areWays_199 rfl (by decide) ?_
          refine z_goto (tgt := 134) dL_areWays_202 (by decide) ?_
          refine tri.take 9 ?_
          exact (ih _ _ hQ162 (nI_add i 1)).wk (by omega) (by omega)
        · refine z_iload dL_areWays_177 rfl ?_
          refine z_if_lt (tgt := 196) dL_areWays_179 (by decide) (fun h179 => absurd h179 (way_3 hI.li hk hi hj h169 h174).1) (fun h179 => ?_)
          refine z_iload dL_areWays_182 rfl ?_
          refine z_iload dL_areWays_184 rfl ?_
          refine z_iload dL_areWays_186 rfl ?_
          refine z_iadd dL_areWays_188 ?_
          refine z_icmp_gt (tgt := 196) dL_areWays_189 (by decide) (fun h189 => absurd h189 (way_3 hI.li hk hi hj h169 h174).2) (fun h189 => ?_)
          refine z_ic ki_1 dL_areWays_192 ?_
          refine z_goto (tgt := 197) dL_areWays_193 (by decide) ?_
          refine z_istore dL_areWays_197 (by decide) ?_
          refine z_inc ki_1 dL_areWays_199 rfl (by decide) ?_
          refine z_goto (tgt := 134) dL_areWays_202 (by decide) ?_
          refine tri.take 9 ?_
          exact (ih _ _ hQ162 (nI_add i 1)).wk (by omega) (by omega)
  have L2 : ∀ (k b2 n2 : Nat), k < σ.fo → (∀ M', WA g A0 σ ar M' → tri g mL_areWays b2 n2 (rQ (some (.int (nI 1))) (WA g A0 σ ar)) M' 211 [(0, .ref (A0 0 0)), (1, .ref (A0 20 1)), (2, .ref (A0 20 2)), (3, .ref (A0 20 3)), (4, .int (nI 1)), (5, .int (nI k))] []) → ∀ j, j ≤ σ.fo → ∀ (M' : Mem) x6, WA g A0 σ ar M' → x6 = nI j → tri g mL_areWays (34 * (8 - j) + b2) (204 * (8 - j) + n2) (rQ (some (.int (nI 1))) (WA g A0 σ ar)) M' 72 [(0, .ref (A0 0 0)), (1, .ref (A0 20 1)), (2, .ref (A0 20 2)), (3, .ref (A0 20 3)), (4, .int (nI 1)), (5, .int (nI k)), (6, .int x6)] [] := by
    intro k b2 n2 hk K
    refine lp_up σ.fo ?_ ?_
    · intro M' x6 hw e6
      subst e6
      refine z_iload dL_areWays_72 rfl ?_
      refine z_aload_n dL_areWays_74 rfl rfl ?_
      refine z_ic ki_0 dL_areWays_75 ?_
      refine z_iaload dL_areWays_76 (WA_3 hw) rfl (by decide) (by decide) ?_
      rw [g2]
      refine z_icmp_ge (tgt := 211) dL_areWays_77 (by decide) (fun h77 => ?_) (fun h77 => absurd (nI_le (by omega) (by omega)) h77)
      refine tri.take 6 ?_
      exact (K _ hw).wk (by omega) (by omega)
    · intro j hj ih M' x6 hw e6
      subst e6
      obtain ⟨w1, w2, w3⟩ := way_1 hI.li hk hj
      have K3 : ∀ M', WA g A0 σ ar M' → tri g mL_areWays (34 * (8 - (j + 1)) + b2) (204 * (8 - (j + 1)) + n2) (rQ (some (.int (nI 1))) (WA g A0 σ ar)) M' 205 [(0, .ref (A0 0 0)), (1, .ref (A0 20 1)), (2, .ref (A0 20 2)), (3, .ref (A0 20 3)), (4, .int (nI 1)), (5, .int (nI k)), (6, .int (nI j))] [] := by
        intro M' hw
        refine z_inc ki_1 dL_areWays_205 rfl (by decide) ?_
        refine z_goto (tgt := 72) dL_areWays_208 (by decide) ?_
        exact ih _ _ hw (nI_add j 1)
      refine z_iload dL_areWays_72 rfl ?_
      refine z_aload_n dL_areWays_74 rfl rfl ?_
      refine z_ic ki_0 dL_areWays_75 ?_
      refine z_iaload dL_areWays_76 (WA_3 hw) rfl (by decide) (by decide) ?_
      rw [g2]
      refine z_icmp_ge (tgt := 211) dL_areWays_77 (by decide) (fun h77 => absurd h77 (nI_ge hj (by omega))) (fun h77 => ?_)
      refine z_iload dL_areWays_80 rfl ?_
      refine z_if_eq (tgt := 211) dL_areWays_82 (by decide) (fun h82 => absurd h82 (by decide)) (fun h82 => ?_)
      refine z_aload_n dL_areWays_85 rfl rfl ?_
      refine z_iload dL_areWays_86 rfl ?_
      refine z_iload dL_areWays_88 rfl ?_
      refine z_ivW dL_areWays_90 cv_RL_22 hw (a_bestF g hI hw hk hj) ⟨⟨by decide, by decide⟩, (by first | exact Nat.zero_le _ | decide | omega), (by first | exact Nat.zero_le _ | decide | omega)⟩ rfl rfl (Nat.le_of_ble_eq_true rfl) (fun M90 hQ90 => ?_)
      refine z_istore dL_areWays_93 (by decide) ?_
      refine z_iload dL_areWays_95 rfl ?_
      refine z_ic ki_m1 dL_areWays_97 ?_
      refine z_icmp_lt (tgt := 128) dL_areWays_98 (by decide) (fun h98 => absurd h98 w1) (fun h98 => ?_)
      refine z_iload dL_areWays_101 rfl ?_
      refine z_bi kb_100 dL_areWays_103 ?_
      refine z_irem dL_areWays_105 (by decide) ?_
      refine z_aload_n dL_areWays_106 rfl rfl ?_
      refine z_ic ki_0 dL_areWays_107 ?_
      refine z_iaload dL_areWays_108 (WA_3 hQ90) rfl (by decide) (by decide) ?_
      rw [g2]
      refine z_icmp_ge (tgt := 128) dL_areWays_109 (by decide) (fun h109 => absurd h109 w2) (fun h109 => ?_)
      refine z_iload dL_areWays_112 rfl ?_
      refine z_iload dL_areWays_114 rfl ?_
      refine z_icmp_eq (tgt := 124) dL_areWays_116 (by decide) (fun h116 => ?_) (fun h116 => ?_)
      · refine z_ic ki_1 dL_areWays_124 ?_
        refine z_goto (tgt := 129) dL_areWays_125 (by decide) ?_
        refine z_istore dL_areWays_129 (by decide) ?_
        refine z_ic ki_0 dL_areWays_131 ?_
        refine z_istore dL_areWays_132 (by decide) ?_
        refine tri.take 9 ?_
        exact (L3 k j _ _ hk hj K3 0 (by omega) _ _ hQ90 rfl).wk (by omega) (by omega)
      · refine z_iload dL_areWays_119 rfl ?_
        refine z_if_eq (tgt := 128) dL_areWays_121 (by decide) (fun h121 => absurd h121 (w3 h116)) (fun h121 => ?_)
        refine z_ic ki_1 dL_areWays_124 ?_
        refine z_goto (tgt := 129) dL_areWays_125 (by decide) ?_
        refine z_istore dL_areWays_129 (by decide) ?_
        refine z_ic ki_0 dL_areWays_131 ?_
        refine z_istore dL_areWays_132 (by decide) ?_
        refine tri.take 9 ?_
        exact (L3 k j _ _ hk hj K3 0 (by omega) _ _ hQ90 rfl).wk (by omega) (by omega)
  have L1 : ∀ (b1 n1 : Nat), (∀ M', WA g A0 σ ar M' → tri g mL_areWays b1 n1 (rQ (some (.int (nI 1))) (WA g A0 σ ar)) M' 217 [(0, .ref (A0 0 0)), (1, .ref (A0 20 1)), (2, .ref (A0 20 2)), (3, .ref (A0 20 3)), (4, .int (nI 1))] []) → ∀ k, k ≤ σ.fo → ∀ (M' : Mem) x5, WA g A0 σ ar M' → x5 = nI k → tri g mL_areWays (274 * (8 - k) + b1) (1644 * (8 - k) + n1) (rQ (some (.int (nI 1))) (WA g A0 σ ar)) M' 38 [(0, .ref (A0 0 0)), (1, .ref (A0 20 1)), (2, .ref (A0 20 2)), (3, .ref (A0 20 3)), (4, .int (nI 1)), (5, .int x5)] [] := by
    intro b1 n1 K
    refine lp_up σ.fo ?_ ?_
    · intro M' x5 hw e5
      subst e5
      refine z_iload dL_areWays_38 rfl ?_
      refine z_aload_n dL_areWays_40 rfl rfl ?_
      refine z_ic ki_0 dL_areWays_41 ?_
      refine z_iaload dL_areWays_42 (WA_3 hw) rfl (by decide) (by decide) ?_
      rw [g2]
      refine z_icmp_ge (tgt := 217) dL_areWays_43 (by decide) (fun h43 => ?_) (fun h43 => absurd (nI_le (by omega) (by omega)) h43)
      refine tri.take 5 ?_
      exact (K _ hw).wk (by omega) (by omega)
    · intro k hk ih M' x5 hw e5
      subst e5
      have K2 : ∀ M', WA g A0 σ ar M' → tri g mL_areWays (274 * (8 - (k + 1)) + b1) (1644 * (8 - (k + 1)) + n1) (rQ (some (.int (nI 1))) (WA g A0 σ ar)) M' 211 [(0, .ref (A0 0 0)), (1, .ref (A0 20 1)), (2, .ref (A0 20 2)), (3, .ref (A0 20 3)), (4, .int (nI 1)), (5, .int (nI k))] [] := by
        intro M' hw
        refine z_inc ki_1 dL_areWays_211 rfl (by decide) ?_
        refine z_goto (tgt := 38) dL_areWays_214 (by decide) ?_
        exact ih _ _ hw (nI_add k 1)
      refine z_iload dL_areWays_38 rfl ?_
      refine z_aload_n dL_areWays_40 rfl rfl ?_
      refine z_ic ki_0 dL_areWays_41 ?_
      refine z_iaload dL_areWays_42 (WA_3 hw) rfl (by decide) (by decide) ?_
      rw [g2]
      refine z_icmp_ge (tgt := 217) dL_areWays_43 (by decide) (fun h43 => absurd h43 (nI_ge hk (by omega))) (fun h43 => ?_)
      refine z_iload dL_areWays_46 rfl ?_
      refine z_if_eq (tgt := 217) dL_areWays_48 (by decide) (fun h48 => absurd h48 (by decide)) (fun h48 => ?_)
      refine z_aload_n dL_areWays_51 rfl rfl ?_
      refine z_iload dL_areWays_52 rfl ?_
      refine z_iload dL_areWays_54 rfl ?_
      refine z_ivW dL_areWays_56 cv_RL_22 hw (a_bestF g hI hw hk hk) ⟨⟨by decide, by decide⟩, (by first | exact Nat.zero_le _ | decide | omega), (by first | exact Nat.zero_le _ | decide | omega)⟩ rfl rfl (Nat.le_of_ble_eq_true rfl) (fun M56 hQ56 => ?_)
      refine z_if_ne (tgt := 66) dL_areWays_59 (by decide) (fun h59 => absurd h59 (fun q => q (way_aa hI.li (by omega)))) (fun h59 => ?_)
      refine z_ic ki_1 dL_areWays_62 ?_
      refine z_goto (tgt := 67) dL_areWays_63 (by decide) ?_
      refine z_istore dL_areWays_67 (by decide) ?_
      refine z_ic ki_0 dL_areWays_69 ?_
      refine z_istore dL_areWays_70 (by decide) ?_
      refine tri.take 7 ?_
      exact (L2 k _ _ hk K2 0 (by omega) _ _ hQ56 rfl).wk (by omega) (by omega)
  -- the risks
  have L5 : ∀ (q b5 n5 : Nat) (M' : Mem), WA g A0 σ ar M' → q < 6 → (∀ x7, tri g mL_areWays b5 n5 (rQ (some (.int (nI 1))) (WA g A0 σ ar)) M' 282 [(0, .ref (A0 0 0)), (1, .ref (A0 20 1)), (2, .ref (A0 20 2)), (3, .ref (A0 20 3)), (4, .int (nI 1)), (5, .int (nI (20 * q))), (6, .int (bset (riskB σ (nI (20 * q))) σ.ob)), (7, .int x7)] []) → ∀ k, k ≤ σ.ob → ∀ x6 x7, x6 = bset (riskB σ (nI (20 * q))) k → x7 = nI k → tri g mL_areWays b5 n5 (rQ (some (.int (nI 1))) (WA g A0 σ ar)) M' 238 [(0, .ref (A0 0 0)), (1, .ref (A0 20 1)), (2, .ref (A0 20 2)), (3, .ref (A0 20 3)), (4, .int (nI 1)), (5, .int (nI (20 * q))), (6, .int x6), (7, .int x7)] [] := by
    intro q b5 n5 M' hw hq K
    refine lp_up σ.ob ?_ ?_
    · intro x6 x7 e6 e7
      subst e6 e7
      refine z_iload dL_areWays_238 rfl ?_
      refine z_aload_n dL_areWays_240 rfl rfl ?_
      refine z_ic ki_1 dL_areWays_241 ?_
      refine z_iaload dL_areWays_242 (WA_3 hw) rfl (by decide) (by decide) ?_
      rw [g3]
      refine z_icmp_ge (tgt := 282) dL_areWays_243 (by decide) (fun h243 => ?_) (fun h243 => absurd (nI_le (by omega) (by omega)) h243)
      exact K _
    · intro k hk ih x6 x7 e6 e7
      subst e6 e7
      have hfm := hI.fm _ (hI.lat hk).1
      have hv6 := (g8 k hk).2.2
      have hh6 := (g7 _ hfm).1
      refine z_iload dL_areWays_238 rfl ?_
      refine z_aload_n dL_areWays_240 rfl rfl ?_
      refine z_ic ki_1 dL_areWays_241 ?_
      refine z_iaload dL_areWays_242 (WA_3 hw) rfl (by decide) (by decide) ?_
      rw [g3]
      refine z_icmp_ge (tgt := 282) dL_areWays_243 (by decide) (fun h243 => absurd h243 (nI_ge hk (by omega))) (fun h243 => ?_)
      refine z_iload dL_areWays_246 rfl ?_
      refine z_aload_n dL_areWays_248 rfl rfl ?_
      refine z_bi kb_6 dL_areWays_249 ?_
      refine z_aload_n dL_areWays_251 rfl rfl ?_
      refine z_bi kb_6 dL_areWays_252 ?_
      refine z_iload dL_areWays_254 rfl ?_
      refine z_iadd dL_areWays_256 ?_
      refine z_iaload dL_areWays_257 (WA_2 hw) (nI_add 6 k) (by omega) (by decide) ?_
      rw [hv6]
      refine z_iadd dL_areWays_258 ?_
      refine z_iaload dL_areWays_259 (WA_1 hw) (nI_add 6 _) (by omega) (by decide) ?_
      rw [hh6]
      refine z_iload dL_areWays_260 rfl ?_
      refine z_icmp_lt (tgt := 272) dL_areWays_262 (by decide) (fun h262 => ?_) (fun h262 => ?_)
      · refine z_ic ki_0 dL_areWays_272 ?_
        refine z_ior dL_areWays_273 ?_
        refine z_istore dL_areWays_274 (by decide) ?_
        refine z_inc ki_1 dL_areWays_276 rfl (by decide) ?_
        refine z_goto (tgt := 238) dL_areWays_279 (by decide) ?_
        have hr : ¬ riskB σ (nI (20 * q)) k = true := fun z => absurd (of_decide_eq_true z) (Int32.not_le.mpr h262)
        exact ih _ _ (by rw [bset, if_neg hr]) (nI_add k 1)
      · refine z_ic ki_1 dL_areWays_265 ?_
        refine z_iload dL_areWays_266 rfl ?_
        refine z_ishl dL_areWays_268 ?_
        refine z_goto (tgt := 273) dL_areWays_269 (by decide) ?_
        refine z_ior dL_areWays_273 ?_
        refine z_istore dL_areWays_274 (by decide) ?_
        refine z_inc ki_1 dL_areWays_276 rfl (by decide) ?_
        refine z_goto (tgt := 238) dL_areWays_279 (by decide) ?_
        have hr : riskB σ (nI (20 * q)) k = true := decide_eq_true (Int32.not_lt.mp h262)
        exact ih _ _ (by rw [bset, if_pos hr]) (nI_add k 1)
  have L4 : ∀ q, q ≤ 6 → ∀ (M' : Mem) x5, WA g A0 σ ar M' → x5 = nI (20 * q) → tri g mL_areWays ((6 - q) + 1) (6 * (6 - q) + 6) (rQ (some (.int (nI 1))) (WA g A0 σ ar)) M' 220 [(0, .ref (A0 0 0)), (1, .ref (A0 20 1)), (2, .ref (A0 20 2)), (3, .ref (A0 20 3)), (4, .int (nI 1)), (5, .int x5)] [] := by
    refine lp_up 6 ?_ ?_
    · intro M' x5 hw e5
      subst e5
      have e317 : tl (o_atRisk σ (nI 101)) (-20) (-20) (-20) = -20 := by
        rw [t_atRisk, if_neg (by decide)]
      refine z_iload dL_areWays_220 rfl ?_
      refine z_bi kb_101 dL_areWays_222 ?_
      refine z_icmp_ge (tgt := 306) dL_areWays_224 (by decide) (fun h224 => ?_) (fun h224 => absurd (nI_le (by omega) (by omega)) h224)
      refine z_iload dL_areWays_306 rfl ?_
      refine z_if_eq (tgt := 329) dL_areWays_308 (by decide) (fun h308 => absurd h308 (by decide)) (fun h308 => ?_)
      refine z_aload_n dL_areWays_311 rfl rfl ?_
      refine z_ic ki_4 dL_areWays_312 ?_
      refine z_bi kb_101 dL_areWays_313 ?_
      refine z_ic ki_0 dL_areWays_315 ?_
      refine z_ic ki_0 dL_areWays_316 ?_
      refine z_isXQ (dd := mL_formats) dL_areWays_317 cw_RL_96 rfl ⟨by decide, by decide⟩ (n := 5) (by decide +kernel) (h_atRisk g hI hw (nI 101) (nI 0) (nI 0)) ⟨⟨by decide, by decide⟩, (by first | exact Nat.zero_le _ | decide | omega), (by first | exact Nat.zero_le _ | decide | omega)⟩ rfl rfl (Nat.le_of_ble_eq_true rfl) (fun M317 hQ317 => ?_)
      refine z_bi kb_m20 dL_areWays_320 ?_
      refine z_icmp_ne (tgt := 329) dL_areWays_322 (by decide) (fun h322 => absurd h322 (fun q => q e317)) (fun h322 => ?_)
      refine z_ic ki_1 dL_areWays_325 ?_
      refine z_goto (tgt := 330) dL_areWays_326 (by decide) ?_
      refine z_ireturn dL_areWays_330 rfl (by first | rfl | exact bI_nar _) ?_
      exact rQ_of hQ317
    · intro q hq ih M' x5 hw e5
      subst e5
      have K5 : ∀ x7, tri g mL_areWays ((6 - q) + 1) (6 * (6 - q) + 6) (rQ (some (.int (nI 1))) (WA g A0 σ ar)) M' 282 [(0, .ref (A0 0 0)), (1, .ref (A0 20 1)), (2, .ref (A0 20 2)), (3, .ref (A0 20 3)), (4, .int (nI 1)), (5, .int (nI (20 * q))), (6, .int (bset (riskB σ (nI (20 * q))) σ.ob)), (7, .int x7)] [] := by
        intro x7
        refine z_aload_n dL_areWays_282 rfl rfl ?_
        refine z_iload dL_areWays_283 rfl ?_
        refine z_ivW dL_areWays_285 cv_RL_25 hw (a_atRiskF g hI hw (by omega)) ⟨⟨by decide, by decide⟩, (by first | exact Nat.zero_le _ | decide | omega), (by first | exact Nat.zero_le _ | decide | omega)⟩ rfl rfl (Nat.le_of_ble_eq_true rfl) (fun M285 hQ285 => ?_)
        refine z_iload dL_areWays_288 rfl ?_
        refine z_icmp_ne (tgt := 297) dL_areWays_290 (by decide) (fun h290 => absurd h290 (fun q => q rfl)) (fun h290 => ?_)
        refine z_ic ki_1 dL_areWays_293 ?_
        refine z_goto (tgt := 298) dL_areWays_294 (by decide) ?_
        refine z_istore dL_areWays_298 (by decide) ?_
        refine z_inc ki_20 dL_areWays_300 rfl (by decide) ?_
        refine z_goto (tgt := 220) dL_areWays_303 (by decide) ?_
        refine tri.take 6 ?_
        exact (ih _ _ hQ285 (nI_add (20 * q) 20)).wk (by omega) (by omega)
      refine z_iload dL_areWays_220 rfl ?_
      refine z_bi kb_101 dL_areWays_222 ?_
      refine z_icmp_ge (tgt := 306) dL_areWays_224 (by decide) (fun h224 => absurd h224 (nI_ge (by omega) (by omega))) (fun h224 => ?_)
      refine z_iload dL_areWays_227 rfl ?_
      refine z_if_eq (tgt := 306) dL_areWays_229 (by decide) (fun h229 => absurd h229 (by decide)) (fun h229 => ?_)
      refine z_ic ki_0 dL_areWays_232 ?_
      refine z_istore dL_areWays_233 (by decide) ?_
      refine z_ic ki_0 dL_areWays_235 ?_
      refine z_istore dL_areWays_236 (by decide) ?_
      exact L5 q _ _ M' hw hq K5 0 (by omega) _ _ rfl rfl
  have K1 : ∀ M', WA g A0 σ ar M' → tri g mL_areWays 7 42 (rQ (some (.int (nI 1))) (WA g A0 σ ar)) M' 217 [(0, .ref (A0 0 0)), (1, .ref (A0 20 1)), (2, .ref (A0 20 2)), (3, .ref (A0 20 3)), (4, .int (nI 1))] [] := by
    intro M' hw
    refine z_ic ki_0 dL_areWays_217 ?_
    refine z_istore dL_areWays_218 (by decide) ?_
    exact L4 0 (by omega) _ _ hw rfl
  have e7 : tl (o_bestWay σ (nI σ.fo) (nI 0)) (-30) (-30) (-30) = -30 := by
    rw [t_bestWay, if_neg (fun q => by rw [inR_no (by omega) (by omega) (Nat.le_refl _)] at q; cases q.1)]
  have e20 : tl (o_bestWay σ (nI 0) (-1)) (-30) (-30) (-30) = -30 := by
    rw [t_bestWay, if_neg (fun q => by rw [inR_m1] at q; cases q.2)]
  refine z_aload_n dL_areWays_0 rfl rfl ?_
  refine z_ic ki_3 dL_areWays_1 ?_
  refine z_aload_n dL_areWays_2 rfl rfl ?_
  refine z_ic ki_0 dL_areWays_3 ?_
  refine z_iaload dL_areWays_4 (WA_3 h) rfl (by decide) (by decide) ?_
  rw [g2]
  refine z_ic ki_0 dL_areWays_5 ?_
  refine z_ic ki_0 dL_areWays_6 ?_
  refine z_isXQ (dd := mL_formats) dL_areWays_7 cw_RL_96 rfl ⟨by decide, by decide⟩ (n := 5) (by decide +kernel) (h_bestWay g hI h (nI σ.fo) (nI 0) (nI 0)) ⟨⟨by decide, by decide⟩, (by first | exact Nat.zero_le _ | decide | omega), (by first | exact Nat.zero_le _ | decide | omega)⟩ rfl rfl (Nat.le_of_ble_eq_true rfl) (fun M7 hQ7 => ?_)
  refine z_bi kb_m30 dL_areWays_10 ?_
  refine z_icmp_ne (tgt := 32) dL_areWays_12 (by decide) (fun h12 => absurd h12 (fun q => q e7)) (fun h12 => ?_)
  refine z_aload_n dL_areWays_15 rfl rfl ?_
  refine z_ic ki_3 dL_areWays_16 ?_
  refine z_ic ki_0 dL_areWays_17 ?_
  refine z_ic ki_m1 dL_areWays_18 ?_
  refine z_ic ki_0 dL_areWays_19 ?_
  refine z_isXQ (dd := mL_formats) dL_areWays_20 cw_RL_96 rfl ⟨by decide, by decide⟩ (n := 5) (by decide +kernel) (h_bestWay g hI hQ7 (nI 0) (-1) (nI 0)) ⟨⟨by decide, by decide⟩, (by first | exact Nat.zero_le _ | decide | omega), (by first | exact Nat.zero_le _ | decide | omega)⟩ rfl rfl (Nat.le_of_ble_eq_true rfl) (fun M20 hQ20 => ?_)
  refine z_bi kb_m30 dL_areWays_23 ?_
  refine z_icmp_ne (tgt := 32) dL_areWays_25 (by decide) (fun h25 => absurd h25 (fun q => q e20)) (fun h25 => ?_)
  refine z_ic ki_1 dL_areWays_28 ?_
  refine z_goto (tgt := 33) dL_areWays_29 (by decide) ?_
  refine z_istore dL_areWays_33 (by decide) ?_
  refine z_ic ki_0 dL_areWays_35 ?_
  refine z_istore dL_areWays_36 (by decide) ?_
  exact (L1 _ _ K1 0 (by omega) _ _ hQ20 rfl).wk (by omega) (by omega)
end AREW
