/-! the law's steps: an object is deposited -/
/-- behind a step that adds a version: the formats of versions but for the newest of an object -/
def JA (g : GG) (A0 : Nat → Nat → Nat) (B : Nat) : Mem → Prop := fun M => ∃ (τ : ST) (ar : Nat → Nat → Int32) (dm tg : Bool) (x : Nat), INV (B + 1000) τ ∧ PI τ dm tg ∧ LR τ ar dm tg ∧ LE τ ar x ∧ (x = 1000 ∨ ∃ o n, o < τ.ob ∧ τ.a 1 o = n + 1 ∧ x = 10 * o + n) ∧ WA g A0 τ ar M
theorem JA_q {g : GG} {A0 : Nat → Nat → Nat} {B : Nat} {M : Mem} (h : JQ g A0 B M) : JA g A0 B M := by
  obtain ⟨τ, ar, dm, tg, h1, h2, h3, h4, h5⟩ := h
  exact ⟨τ, ar, dm, tg, 1000, h1, h2, h3, h4, Or.inl rfl, h5⟩
def ctn (two : Nat) : Nat := if two % 40 = 0 then 1000000 else if two % 3 = 0 then two % 7 else two * 140
theorem c_1m : (1000000 : Int32) = nI 1000000 := by decide
theorem c_999 : (999999 : Int32) = nI 999999 := by decide
theorem ctn_lt {two : Nat} (h : two < 7000) : ctn two ≤ 1000000 := by
  unfold ctn
  split
  · omega
  · split <;> omega
theorem inC_n {c : Nat} (h : c ≤ 999999) : inC (nI c) = true := decide_eq_true ⟨nI_le (by omega) (by omega), by rw [c_999]; exact nI_le h (by decide)⟩
theorem inC_no {c : Nat} (h : 999999 < c) (hc : c < 2 ^ 31) : inC (nI c) = false := decide_eq_false (fun q => by rw [c_999] at q; exact absurd q.2 (nI_ge h hc))
section STEPD
variable (g : GG) {A0 : Nat → Nat → Nat} {B : Nat} {σ : ST} {ar : Nat → Nat → Int32} {dm tg : Bool} {M : Mem}
theorem added_start {bk bn two : Nat} {P : PO} (h2 : two < 7000) {a0 a1 a2 a3 a4 : Nat} {w5 w6 w8 : Int32} (K : tri g mL_isAdded bk bn P M 34 [(0, .ref a0), (1, .ref a1), (2, .ref a2), (3, .ref a3), (4, .ref a4), (5, .int w5), (6, .int w6), (7, .int (nI two)), (8, .int w8)] [.int (nI (ctn two))]) : tri g mL_isAdded bk bn P M 0 [(0, .ref a0), (1, .ref a1), (2, .ref a2), (3, .ref a3), (4, .ref a4), (5, .int w5), (6, .int w6), (7, .int (nI two)), (8, .int w8)] [] := by
  have e40 : nI two - nI two / nI 40 * nI 40 = nI (two % 40) := pk_rem (by omega) (by decide) (by decide)
  have e3 : nI two - nI two / nI 3 * nI 3 = nI (two % 3) := pk_rem (by omega) (by decide) (by decide)
  have e7 : nI two - nI two / nI 7 * nI 7 = nI (two % 7) := pk_rem (by omega) (by decide) (by decide)
  by_cases h40 : two % 40 = 0
  · have e : nI (ctn two) = 1000000 := by
      unfold ctn
      rw [if_pos h40]
      decide
    rw [e] at K
    refine z_iload dL_isAdded_0 rfl ?_
    refine z_bi kb_40 dL_isAdded_2 ?_
    refine z_irem dL_isAdded_4 (by decide) ?_
    rw [e40, h40]
    refine z_if_ne (tgt := 13) dL_isAdded_5 (by decide) (fun h5 => absurd h5 (by decide)) (fun h5 => ?_)
    refine z_ldc dL_isAdded_8 lc_RL_99 ?_
    refine z_goto (tgt := 34) dL_isAdded_10 (by decide) ?_
    exact K
  · by_cases h3 : two % 3 = 0
    · have e : nI (ctn two) = nI (two % 7) := by
        unfold ctn
        rw [if_neg h40, if_pos h3]
      rw [e] at K
      refine z_iload dL_isAdded_0 rfl ?_
      refine z_bi kb_40 dL_isAdded_2 ?_
      refine z_irem dL_isAdded_4 (by decide) ?_
      rw [e40]
      refine z_if_ne (tgt := 13) dL_isAdded_5 (by decide) (fun h5 => ?_) (fun h5 => absurd h5 (nI_ne0 (by omega) (by omega)))
      refine z_iload dL_isAdded_13 rfl ?_
      refine z_ic ki_3 dL_isAdded_15 ?_
      refine z_irem dL_isAdded_16 (by decide) ?_
      rw [e3, h3]
      refine z_if_ne (tgt := 28) dL_isAdded_17 (by decide) (fun h17 => absurd h17 (by decide)) (fun h17 => ?_)
      refine z_iload dL_isAdded_20 rfl ?_
      refine z_bi kb_7 dL_isAdded_22 ?_
      refine z_irem dL_isAdded_24 (by decide) ?_
      rw [e7]
      refine z_goto (tgt := 34) dL_isAdded_25 (by decide) ?_
      exact K
    · have e : nI (ctn two) = nI two * nI 140 := by
        unfold ctn
        rw [if_neg h40, if_neg h3, pk_mul]
      rw [e] at K
      refine z_iload dL_isAdded_0 rfl ?_
      refine z_bi kb_40 dL_isAdded_2 ?_
      refine z_irem dL_isAdded_4 (by decide) ?_
      rw [e40]
      refine z_if_ne (tgt := 13) dL_isAdded_5 (by decide) (fun h5 => ?_) (fun h5 => absurd h5 (nI_ne0 (by omega) (by omega)))
      refine z_iload dL_isAdded_13 rfl ?_
      refine z_ic ki_3 dL_isAdded_15 ?_
      refine z_irem dL_isAdded_16 (by decide) ?_
      rw [e3]
      refine z_if_ne (tgt := 28) dL_isAdded_17 (by decide) (fun h17 => ?_) (fun h17 => absurd h17 (nI_ne0 (by omega) (by omega)))
      refine z_iload dL_isAdded_28 rfl ?_
      refine z_si ks_140 dL_isAdded_30 ?_
      refine z_imul dL_isAdded_33 ?_
      exact K
theorem c_L_isAdded0 (hI : INV B σ) (hB : 2000000 ≤ B ∧ B < 2147483648) (hP : PI σ dm tg) (hR : LR σ ar dm tg) (hE : LE σ ar 1000) (h : WA g A0 σ ar M) {one two three : Nat} (h1 : one < 2 ^ 31) (h2 : two < 7000) (h3 : three < 2 ^ 31) : con g mL_isAdded 15 530 [.ref (A0 0 0), .ref (A0 20 0), .ref (A0 20 1), .ref (A0 20 2), .ref (A0 20 3), .int (nI 0), .int (nI one), .int (nI two), .int (nI three)] M (rQ (some (.int (nI 1))) (JA g A0 B)) := by
  refine con_i ?_ (by decide) rfl rfl (by simp [lv_args, Value.category]) (by simp [lv_args, lnd, Value.category])
  refine added_start g h2 ?_
  have hR2 := hR
  obtain ⟨g1, ⟨g2, g3, g4, g5, g6⟩, g7, g8, g9⟩ := hR2
  have h8 := hI.li.1
  have hcc := ctn_lt h2
  generalize ctn two = cc at hcc
  have hz : ¬ nI (σ.fo + 1) = 0 := nI_ne0 (by omega) (by omega)
  have e1 : nI one - nI one / nI (σ.fo + 1) * nI (σ.fo + 1) = nI (one % (σ.fo + 1)) := pk_rem h1 (by omega) (by omega)
  have l1 : one % (σ.fo + 1) < σ.fo + 1 := Nat.mod_lt _ (by omega)
  generalize one % (σ.fo + 1) = f at e1 l1
  have e5 : nI three - nI three / nI 5 * nI 5 = nI (three % 5) := pk_rem h3 (by decide) (by decide)
  have l5 : three % 5 < 5 := Nat.mod_lt _ (by decide)
  generalize three % 5 = m at e5 l5
  have ef : tN (nI f) = f := nI_clamp (by omega)
  have em : tN (nI m) = m := nI_clamp (by omega)
  -- not right
  have no : ¬ (cc ≤ 999999 ∧ 1 ≤ m ∧ m ≤ 3) → tri g mL_isAdded 15 530 (rQ (some (.int (nI 1))) (JA g A0 B)) M 81 [(0, .ref (A0 0 0)), (1, .ref (A0 20 0)), (2, .ref (A0 20 1)), (3, .ref (A0 20 2)), (4, .ref (A0 20 3)), (5, .int (nI 0)), (6, .int (nI one)), (7, .int (nI two)), (8, .int (nI three)), (9, .int (nI cc)), (10, .int (nI f)), (11, .int (nI m))] [.int (nI 0)] := by
    intro hq
    have eo : o_deposit σ (nI f) (nI cc) (nI m) = (1, nI 0, σ) := by
      unfold o_deposit
      rw [if_neg (fun z => ?_)]
      rw [Bool.and_eq_true] at z
      refine hq ⟨Classical.byContradiction fun q => ?_, ?_⟩
      · rw [inC_no (by omega) (by omega)] at z
        cases z.1
      · have z2 := of_decide_eq_true z.2
        exact ⟨(nI_leI (by decide) (by omega)).mp z2.1, (nI_leI (by omega) (by decide)).mp z2.2⟩
    refine z_istore dL_isAdded_81 (by decide) ?_
    refine z_aload dL_isAdded_83 rfl rfl ?_
    refine z_ic ki_1 dL_isAdded_85 ?_
    refine z_iaload dL_isAdded_86 (WA_3 h) rfl (by decide) (by decide) ?_
    rw [g3]
    refine z_bi kb_6 dL_isAdded_87 ?_
    refine z_icmp_ne (tgt := 119) dL_isAdded_89 (by decide) (fun h89 => ?_) (fun h89 => ?_)
    · refine z_iload dL_isAdded_119 rfl ?_
      refine z_if_ne (tgt := 129) dL_isAdded_121 (by decide) (fun h121 => absurd h121 (by decide)) (fun h121 => ?_)
      refine z_bi kb_m20 dL_isAdded_124 ?_
      refine z_goto (tgt := 147) dL_isAdded_126 (by decide) ?_
      refine z_istore dL_isAdded_147 (by decide) ?_
      refine z_iload dL_isAdded_149 rfl ?_
      refine z_if_lt (tgt := 190) dL_isAdded_151 (by decide) (fun h151 => ?_) (fun h151 => absurd (by decide) h151)
      refine z_aload_n dL_isAdded_190 rfl rfl ?_
      refine z_ic ki_0 dL_isAdded_191 ?_
      refine z_iload dL_isAdded_192 rfl ?_
      refine z_iload dL_isAdded_194 rfl ?_
      refine z_iload dL_isAdded_196 rfl ?_
      refine z_isXQ (dd := mL_versions) dL_isAdded_198 cw_RL_90 rfl ⟨by decide, by decide⟩ (n := 5) (by decide +kernel) (h_deposit g hI hB h (nI f) (nI cc) (nI m)) ⟨⟨by decide, by decide⟩, (by first | exact Nat.zero_le _ | decide | omega), (by first | exact Nat.zero_le _ | decide | omega)⟩ rfl rfl (Nat.le_of_ble_eq_true rfl) (fun M198 hQ198 => ?_)
      refine z_iload dL_isAdded_201 rfl ?_
      refine z_icmp_ne (tgt := 210) dL_isAdded_203 (by decide) (fun h203 => absurd h203 (fun q => q (tl_1 (by rw [eo])))) (fun h203 => ?_)
      refine z_ic ki_1 dL_isAdded_206 ?_
      refine z_goto (tgt := 211) dL_isAdded_207 (by decide) ?_
      refine z_ireturn dL_isAdded_211 rfl (by first | rfl | exact bI_nar _) ?_
      exact rQ_of (JA_q (JQ_same hP hR hE (by rw [eo]) hQ198))
    · refine z_iload dL_isAdded_92 rfl ?_
      refine z_if_eq (tgt := 119) dL_isAdded_94 (by decide) (fun h94 => ?_) (fun h94 => absurd (by decide) h94)
      refine z_iload dL_isAdded_119 rfl ?_
      refine z_if_ne (tgt := 129) dL_isAdded_121 (by decide) (fun h121 => absurd h121 (by decide)) (fun h121 => ?_)
      refine z_bi kb_m20 dL_isAdded_124 ?_
      refine z_goto (tgt := 147) dL_isAdded_126 (by decide) ?_
      refine z_istore dL_isAdded_147 (by decide) ?_
      refine z_iload dL_isAdded_149 rfl ?_
      refine z_if_lt (tgt := 190) dL_isAdded_151 (by decide) (fun h151 => ?_) (fun h151 => absurd (by decide) h151)
      refine z_aload_n dL_isAdded_190 rfl rfl ?_
      refine z_ic ki_0 dL_isAdded_191 ?_
      refine z_iload dL_isAdded_192 rfl ?_
      refine z_iload dL_isAdded_194 rfl ?_
      refine z_iload dL_isAdded_196 rfl ?_
      refine z_isXQ (dd := mL_versions) dL_isAdded_198 cw_RL_90 rfl ⟨by decide, by decide⟩ (n := 5) (by decide +kernel) (h_deposit g hI hB h (nI f) (nI cc) (nI m)) ⟨⟨by decide, by decide⟩, (by first | exact Nat.zero_le _ | decide | omega), (by first | exact Nat.zero_le _ | decide | omega)⟩ rfl rfl (Nat.le_of_ble_eq_true rfl) (fun M198 hQ198 => ?_)
      refine z_iload dL_isAdded_201 rfl ?_
      refine z_icmp_ne (tgt := 210) dL_isAdded_203 (by decide) (fun h203 => absurd h203 (fun q => q (tl_1 (by rw [eo])))) (fun h203 => ?_)
      refine z_ic ki_1 dL_isAdded_206 ?_
      refine z_goto (tgt := 211) dL_isAdded_207 (by decide) ?_
      refine z_ireturn dL_isAdded_211 rfl (by first | rfl | exact bI_nar _) ?_
      exact rQ_of (JA_q (JQ_same hP hR hE (by rw [eo]) hQ198))
  -- right
  have yes : cc ≤ 999999 ∧ 1 ≤ m ∧ m ≤ 3 → tri g mL_isAdded 15 530 (rQ (some (.int (nI 1))) (JA g A0 B)) M 81 [(0, .ref (A0 0 0)), (1, .ref (A0 20 0)), (2, .ref (A0 20 1)), (3, .ref (A0 20 2)), (4, .ref (A0 20 3)), (5, .int (nI 0)), (6, .int (nI one)), (7, .int (nI two)), (8, .int (nI three)), (9, .int (nI cc)), (10, .int (nI f)), (11, .int (nI m))] [.int (nI 1)] := by
    intro hq
    have hc1 : (inC (nI cc) && inK 1 3 (nI m)) = true := by
      rw [inC_n hq.1, Bool.true_and]
      exact decide_eq_true ⟨nI_le hq.2.1 (by omega), nI_le hq.2.2 (by decide)⟩
    by_cases hf : f = σ.fo
    · have eo : o_deposit σ (nI f) (nI cc) (nI m) = (2, nI 0, σ) := by
        unfold o_deposit
        rw [if_pos hc1, hf, inR_no (by omega) (by omega) (Nat.le_refl _), if_neg (by decide)]
      refine z_istore dL_isAdded_81 (by decide) ?_
      refine z_aload dL_isAdded_83 rfl rfl ?_
      refine z_ic ki_1 dL_isAdded_85 ?_
      refine z_iaload dL_isAdded_86 (WA_3 h) rfl (by decide) (by decide) ?_
      rw [g3]
      refine z_bi kb_6 dL_isAdded_87 ?_
      refine z_icmp_ne (tgt := 119) dL_isAdded_89 (by decide) (fun h89 => ?_) (fun h89 => ?_)
      · refine z_iload dL_isAdded_119 rfl ?_
        refine z_if_ne (tgt := 129) dL_isAdded_121 (by decide) (fun h121 => ?_) (fun h121 => absurd h121 (by decide))
        refine z_iload dL_isAdded_129 rfl ?_
        refine z_aload dL_isAdded_131 rfl rfl ?_
        refine z_ic ki_0 dL_isAdded_133 ?_
        refine z_iaload dL_isAdded_134 (WA_3 h) rfl (by decide) (by decide) ?_
        rw [g2]
        refine z_icmp_ne (tgt := 143) dL_isAdded_135 (by decide) (fun h135 => absurd h135 (fun q => q (by rw [hf]))) (fun h135 => ?_)
        refine z_bi kb_m30 dL_isAdded_138 ?_
        refine z_goto (tgt := 147) dL_isAdded_140 (by decide) ?_
        refine z_istore dL_isAdded_147 (by decide) ?_
        refine z_iload dL_isAdded_149 rfl ?_
        refine z_if_lt (tgt := 190) dL_isAdded_151 (by decide) (fun h151 => ?_) (fun h151 => absurd (by decide) h151)
        refine z_aload_n dL_isAdded_190 rfl rfl ?_
        refine z_ic ki_0 dL_isAdded_191 ?_
        refine z_iload dL_isAdded_192 rfl ?_
        refine z_iload dL_isAdded_194 rfl ?_
        refine z_iload dL_isAdded_196 rfl ?_
        refine z_isXQ (dd := mL_versions) dL_isAdded_198 cw_RL_90 rfl ⟨by decide, by decide⟩ (n := 5) (by decide +kernel) (h_deposit g hI hB h (nI f) (nI cc) (nI m)) ⟨⟨by decide, by decide⟩, (by first | exact Nat.zero_le _ | decide | omega), (by first | exact Nat.zero_le _ | decide | omega)⟩ rfl rfl (Nat.le_of_ble_eq_true rfl) (fun M198 hQ198 => ?_)
        refine z_iload dL_isAdded_201 rfl ?_
        refine z_icmp_ne (tgt := 210) dL_isAdded_203 (by decide) (fun h203 => absurd h203 (fun q => q (tl_2 (by rw [eo])))) (fun h203 => ?_)
        refine z_ic ki_1 dL_isAdded_206 ?_
        refine z_goto (tgt := 211) dL_isAdded_207 (by decide) ?_
        refine z_ireturn dL_isAdded_211 rfl (by first | rfl | exact bI_nar _) ?_
        exact rQ_of (JA_q (JQ_same hP hR hE (by rw [eo]) hQ198))
      · refine z_iload dL_isAdded_92 rfl ?_
        refine z_if_eq (tgt := 119) dL_isAdded_94 (by decide) (fun h94 => absurd h94 (by decide)) (fun h94 => ?_)
        refine z_iload dL_isAdded_97 rfl ?_
        refine z_aload dL_isAdded_99 rfl rfl ?_
        refine z_ic ki_0 dL_isAdded_101 ?_
        refine z_iaload dL_isAdded_102 (WA_3 h) rfl (by decide) (by decide) ?_
        rw [g2]
        refine z_icmp_ge (tgt := 119) dL_isAdded_103 (by decide) (fun h103 => ?_) (fun h103 => absurd (nI_le (by omega) (by omega)) h103)
        refine z_iload dL_isAdded_119 rfl ?_
        refine z_if_ne (tgt := 129) dL_isAdded_121 (by decide) (fun h121 => ?_) (fun h121 => absurd h121 (by decide))
        refine z_iload dL_isAdded_129 rfl ?_
        refine z_aload dL_isAdded_131 rfl rfl ?_
        refine z_ic ki_0 dL_isAdded_133 ?_
        refine z_iaload dL_isAdded_134 (WA_3 h) rfl (by decide) (by decide) ?_
        rw [g2]
        refine z_icmp_ne (tgt := 143) dL_isAdded_135 (by decide) (fun h135 => absurd h135 (fun q => q (by rw [hf]))) (fun h135 => ?_)
        refine z_bi kb_m30 dL_isAdded_138 ?_
        refine z_goto (tgt := 147) dL_isAdded_140 (by decide) ?_
        refine z_istore dL_isAdded_147 (by decide) ?_
        refine z_iload dL_isAdded_149 rfl ?_
        refine z_if_lt (tgt := 190) dL_isAdded_151 (by decide) (fun h151 => ?_) (fun h151 => absurd (by decide) h151)
        refine z_aload_n dL_isAdded_190 rfl rfl ?_
        refine z_ic ki_0 dL_isAdded_191 ?_
        refine z_iload dL_isAdded_192 rfl ?_
        refine z_iload dL_isAdded_194 rfl ?_
        refine z_iload dL_isAdded_196 rfl ?_
        refine z_isXQ (dd := mL_versions) dL_isAdded_198 cw_RL_90 rfl ⟨by decide, by decide⟩ (n := 5) (by decide +kernel) (h_deposit g hI hB h (nI f) (nI cc) (nI m)) ⟨⟨by decide, by decide⟩, (by first | exact Nat.zero_le _ | decide | omega), (by first | exact Nat.zero_le _ | decide | omega)⟩ rfl rfl (Nat.le_of_ble_eq_true rfl) (fun M198 hQ198 => ?_)
        refine z_iload dL_isAdded_201 rfl ?_
        refine z_icmp_ne (tgt := 210) dL_isAdded_203 (by decide) (fun h203 => absurd h203 (fun q => q (tl_2 (by rw [eo])))) (fun h203 => ?_)
        refine z_ic ki_1 dL_isAdded_206 ?_
        refine z_goto (tgt := 211) dL_isAdded_207 (by decide) ?_
        refine z_ireturn dL_isAdded_211 rfl (by first | rfl | exact bI_nar _) ?_
        exact rQ_of (JA_q (JQ_same hP hR hE (by rw [eo]) hQ198))
    · by_cases h6 : σ.ob = 6
      · skip
        refine z_istore dL_isAdded_81 (by decide) ?_
        refine z_aload dL_isAdded_83 rfl rfl ?_
        refine z_ic ki_1 dL_isAdded_85 ?_
        refine z_iaload dL_isAdded_86 (WA_3 h) rfl (by decide) (by decide) ?_
        rw [g3]
        refine z_bi kb_6 dL_isAdded_87 ?_
        refine z_icmp_ne (tgt := 119) dL_isAdded_89 (by decide) (fun h89 => absurd h89 (fun q => q (by rw [h6]))) (fun h89 => ?_)
        refine z_iload dL_isAdded_92 rfl ?_
        refine z_if_eq (tgt := 119) dL_isAdded_94 (by decide) (fun h94 => absurd h94 (by decide)) (fun h94 => ?_)
        refine z_iload dL_isAdded_97 rfl ?_
        refine z_aload dL_isAdded_99 rfl rfl ?_
        refine z_ic ki_0 dL_isAdded_101 ?_
        refine z_iaload dL_isAdded_102 (WA_3 h) rfl (by decide) (by decide) ?_
        rw [g2]
        refine z_icmp_ge (tgt := 119) dL_isAdded_103 (by decide) (fun h103 => absurd h103 (nI_ge (by omega) (by omega))) (fun h103 => ?_)
        refine z_aload_n dL_isAdded_106 rfl rfl ?_
        refine z_ivW dL_isAdded_107 cv_RL_83 h (a_units g hI h) ⟨⟨by decide, by decide⟩, (by first | exact Nat.zero_le _ | decide | omega), (by first | exact Nat.zero_le _ | decide | omega)⟩ rfl rfl (Nat.le_of_ble_eq_true rfl) (fun M107 hQ107 => ?_)
        refine z_if_lt (tgt := 117) dL_isAdded_110 (by decide) (fun h110 => absurd h110 (nI_pos (by have := unn_le σ σ.un; have := hI.wf.1.2; omega))) (fun h110 => ?_)
        refine z_ic ki_1 dL_isAdded_113 ?_
        refine z_goto (tgt := 118) dL_isAdded_114 (by decide) ?_
        refine z_ireturn dL_isAdded_118 rfl (by first | rfl | exact bI_nar _) ?_
        exact rQ_of (JA_q (JQ_same (o := (0, nI 0, σ)) hP hR hE rfl ⟨σ, hI.up (Nat.le_add_right _ _), sim.refl σ, hQ107⟩))
      · have hob : σ.ob < 10 := by omega
        have eo : o_deposit σ (nI f) (nI cc) (nI m) = (0, nI σ.ob, (adR (σ.sa 0 σ.ob m) σ.ob f 0 false (nI cc)).sn 1 (σ.ob + 1)) := by
          unfold o_deposit
          rw [if_pos hc1, inR_nI (by omega) (by omega), if_pos rfl, if_neg (by omega), ef, em]
        have w1 := WA_p0 h (10 * σ.ob) (nI cc)
        have w2 := WA_p1 w1 σ.ob (nI 1)
        have w3 := WA_p2 w2 σ.ob (nI 1)
        have w4 := WA_p2 w3 (6 + σ.ob) (nI f)
        have w5 := WA_p3 w4 1 (nI σ.ob + nI 1)
        have e186 : f2 (f2 (f2 (f2 ar 0 (10 * σ.ob) (nI cc)) 1 σ.ob (nI 1)) 2 σ.ob (nI 1)) 2 (6 + σ.ob) (nI f) 3 1 = nI σ.ob := by
          rw [f2_a (by decide), f2_a (by decide), f2_a (by decide), f2_a (by decide), g3]
        refine z_istore dL_isAdded_81 (by decide) ?_
        refine z_aload dL_isAdded_83 rfl rfl ?_
        refine z_ic ki_1 dL_isAdded_85 ?_
        refine z_iaload dL_isAdded_86 (WA_3 h) rfl (by decide) (by decide) ?_
        rw [g3]
        refine z_bi kb_6 dL_isAdded_87 ?_
        refine z_icmp_ne (tgt := 119) dL_isAdded_89 (by decide) (fun h89 => ?_) (fun h89 => absurd h89 (fun q => h6 ((nI_eq (by omega) (by decide)).mp q)))
        refine z_iload dL_isAdded_119 rfl ?_
        refine z_if_ne (tgt := 129) dL_isAdded_121 (by decide) (fun h121 => ?_) (fun h121 => absurd h121 (by decide))
        refine z_iload dL_isAdded_129 rfl ?_
        refine z_aload dL_isAdded_131 rfl rfl ?_
        refine z_ic ki_0 dL_isAdded_133 ?_
        refine z_iaload dL_isAdded_134 (WA_3 h) rfl (by decide) (by decide) ?_
        rw [g2]
        refine z_icmp_ne (tgt := 143) dL_isAdded_135 (by decide) (fun h135 => ?_) (fun h135 => absurd h135 (fun q => hf ((nI_eq (by omega) (by omega)).mp q)))
        refine z_aload dL_isAdded_143 rfl rfl ?_
        refine z_ic ki_1 dL_isAdded_145 ?_
        refine z_iaload dL_isAdded_146 (WA_3 h) rfl (by decide) (by decide) ?_
        rw [g3]
        refine z_istore dL_isAdded_147 (by decide) ?_
        refine z_iload dL_isAdded_149 rfl ?_
        refine z_if_lt (tgt := 190) dL_isAdded_151 (by decide) (fun h151 => absurd h151 (nI_pos (by omega))) (fun h151 => ?_)
        refine z_aload_n dL_isAdded_154 rfl rfl ?_
        refine z_bi kb_10 dL_isAdded_155 ?_
        refine z_iload dL_isAdded_157 rfl ?_
        refine z_imul dL_isAdded_159 ?_
        refine z_iload dL_isAdded_160 rfl ?_
        refine z_iastore dL_isAdded_162 (WA_0 h) (pk_mul 10 σ.ob) (by omega) (by decide) ?_
        refine z_aload_n dL_isAdded_163 rfl rfl ?_
        refine z_iload dL_isAdded_164 rfl ?_
        refine z_ic ki_1 dL_isAdded_166 ?_
        refine z_iastore dL_isAdded_167 (WA_1 w1) rfl (by omega) (by decide) ?_
        refine z_aload_n dL_isAdded_168 rfl rfl ?_
        refine z_iload dL_isAdded_169 rfl ?_
        refine z_ic ki_1 dL_isAdded_171 ?_
        refine z_iastore dL_isAdded_172 (WA_2 w2) rfl (by omega) (by decide) ?_
        refine z_aload_n dL_isAdded_173 rfl rfl ?_
        refine z_bi kb_6 dL_isAdded_174 ?_
        refine z_iload dL_isAdded_176 rfl ?_
        refine z_iadd dL_isAdded_178 ?_
        refine z_iload dL_isAdded_179 rfl ?_
        refine z_iastore dL_isAdded_181 (WA_2 w3) (nI_add 6 σ.ob) (by omega) (by decide) ?_
        refine z_aload dL_isAdded_182 rfl rfl ?_
        refine z_ic ki_1 dL_isAdded_184 ?_
        refine z_dup2 dL_isAdded_185 rfl rfl ?_
        refine z_iaload dL_isAdded_186 (WA_3 w4) rfl (by decide) (by decide) ?_
        rw [e186]
        refine z_ic ki_1 dL_isAdded_187 ?_
        refine z_iadd dL_isAdded_188 ?_
        refine z_iastore dL_isAdded_189 (WA_3 w4) rfl (by decide) (by decide) ?_
        refine z_aload_n dL_isAdded_190 rfl rfl ?_
        refine z_ic ki_0 dL_isAdded_191 ?_
        refine z_iload dL_isAdded_192 rfl ?_
        refine z_iload dL_isAdded_194 rfl ?_
        refine z_iload dL_isAdded_196 rfl ?_
        refine z_isXQ (dd := mL_versions) dL_isAdded_198 cw_RL_90 rfl ⟨by decide, by decide⟩ (n := 5) (by decide +kernel) (h_deposit g hI hB w5 (nI f) (nI cc) (nI m)) ⟨⟨by decide, by decide⟩, (by first | exact Nat.zero_le _ | decide | omega), (by first | exact Nat.zero_le _ | decide | omega)⟩ rfl rfl (Nat.le_of_ble_eq_true rfl) (fun M198 hQ198 => ?_)
        refine z_iload dL_isAdded_201 rfl ?_
        refine z_icmp_ne (tgt := 210) dL_isAdded_203 (by decide) (fun h203 => absurd h203 (fun q => q (by rw [tl_0 (by rw [eo]), eo]))) (fun h203 => ?_)
        refine z_ic ki_1 dL_isAdded_206 ?_
        refine z_goto (tgt := 211) dL_isAdded_207 (by decide) ?_
        refine z_ireturn dL_isAdded_211 rfl (by first | rfl | exact bI_nar _) ?_
        obtain ⟨τ, i1, s1, w6⟩ := hQ198
        rw [eo] at s1
        have hun := hI.room0 hob
        obtain ⟨hV, c1, c2, c3⟩ := vc_dep hI i1 hob s1
        have hP' := PI_sim (PI_dep hP (fun s => (hI.gh.1 σ.un s (Nat.le_refl _)).1) hq.2.1 hq.2.2 f 0 false (nI cc)) s1
        have hbz : ∀ k, k < 10 → σ.b 0 (10 * σ.ob + k) = false := fun k hk => b0_hi hI hk (by rw [hun.2]; exact Nat.zero_le _)
        have hb1 : bset (f1 (fun k => σ.b 0 (10 * σ.ob + k)) 0 true) 10 = nI 1 := by
          have hz := bset_z (f := fun k => σ.b 0 (10 * σ.ob + k)) (m := 0) 10 (fun k _ h2 => hbz k (by omega))
          rw [bset_on _ (by decide), show (10 : Nat) = 0 + 10 from rfl, hz]
          show nI 0 ||| nI 1 <<< (nI 0 &&& 31) = nI 1
          decide
        refine rQ_of ⟨τ, _, dm, tg, 10 * σ.ob + 0, i1, hP', LR_new hI hR hun.2 (by decide) hV ⟨c1, c2⟩ (Or.inr ⟨c3, rfl, rfl⟩) (by omega) ⟨?_, ?_, ?_, ?_, ?_⟩ (fun f' hf' => ?_) (fun j hj hne => ⟨?_, ?_, ?_⟩) ⟨?_, ?_, ?_⟩ ⟨fun w hw => ?_, ?_⟩, LE_new hI hE hV (fun w => ?_), Or.inr ⟨σ.ob, 0, by omega, by rw [hV.2.2.2, if_pos rfl], rfl⟩, w6⟩
        · rw [f2_n (fun z => absurd z.2 (by decide)), f2_a (by decide), f2_a (by decide), f2_a (by decide), f2_a (by decide)]
        · rw [f2_s, c3]
          exact nI_add σ.ob 1
        · rw [f2_n (fun z => absurd z.2 (by decide)), f2_a (by decide), f2_a (by decide), f2_a (by decide), f2_a (by decide)]
        · rw [f2_n (fun z => absurd z.2 (by decide)), f2_a (by decide), f2_a (by decide), f2_a (by decide), f2_a (by decide)]
        · rw [f2_n (fun z => absurd z.2 (by decide)), f2_a (by decide), f2_a (by decide), f2_a (by decide), f2_a (by decide)]
        · rw [f2_a (by decide), f2_a (by decide), f2_a (by decide), f2_n (fun z => by have := z.2; omega), f2_a (by decide)]
        · rw [f2_a (by decide), f2_a (by decide), f2_a (by decide), f2_n (fun z => hne z.2), f2_a (by decide)]
        · rw [f2_a (by decide), f2_n (fun z => by have := z.2; omega), f2_n (fun z => hne z.2), f2_a (by decide), f2_a (by decide)]
        · rw [f2_a (by decide), f2_n (fun z => by have := z.2; omega), f2_n (fun z => by have := z.2; omega), f2_a (by decide), f2_a (by decide)]
        · rw [f2_a (by decide), f2_a (by decide), f2_a (by decide), f2_s]
        · rw [f2_a (by decide), f2_n (fun z => by have := z.2; omega), f2_s, hb1]
        · rw [f2_a (by decide), f2_s]
        · rw [f2_a (by decide), f2_a (by decide), f2_a (by decide), f2_a (by decide)]
          exact f2_n (fun z => hw z.2)
        · rw [f2_a (by decide), f2_a (by decide), f2_a (by decide), f2_a (by decide)]
          exact f2_s
        · rw [f2_a (by decide), f2_a (by decide), f2_a (by decide), f2_a (by decide), f2_a (by decide)]
  by_cases q1 : cc ≤ 999999
  · by_cases q2 : 1 ≤ m
    · by_cases q3 : m ≤ 3
      · skip
        refine z_istore dL_isAdded_34 (by decide) ?_
        refine z_iload dL_isAdded_36 rfl ?_
        refine z_if_ne (tgt := 212) dL_isAdded_38 (by decide) (fun h38 => absurd h38 (by decide)) (fun h38 => ?_)
        refine z_iload dL_isAdded_41 rfl ?_
        refine z_aload dL_isAdded_43 rfl rfl ?_
        refine z_ic ki_0 dL_isAdded_45 ?_
        refine z_iaload dL_isAdded_46 (WA_3 h) rfl (by decide) (by decide) ?_
        refine z_ic ki_1 dL_isAdded_47 ?_
        refine z_iadd dL_isAdded_48 ?_
        rw [g2, nI_add]
        refine z_irem dL_isAdded_49 hz ?_
        rw [e1]
        refine z_istore dL_isAdded_50 (by decide) ?_
        refine z_iload dL_isAdded_52 rfl ?_
        refine z_ic ki_5 dL_isAdded_54 ?_
        refine z_irem dL_isAdded_55 (by decide) ?_
        rw [e5]
        refine z_istore dL_isAdded_56 (by decide) ?_
        refine z_iload dL_isAdded_58 rfl ?_
        refine z_ldc dL_isAdded_60 lc_RL_99 ?_
        rw [c_1m]
        refine z_icmp_ge (tgt := 80) dL_isAdded_62 (by decide) (fun h62 => absurd h62 (nI_ge (by omega) (by decide))) (fun h62 => ?_)
        refine z_iload dL_isAdded_65 rfl ?_
        refine z_if_le (tgt := 80) dL_isAdded_67 (by decide) (fun h67 => absurd h67 (nI_nle (by omega) (by omega))) (fun h67 => ?_)
        refine z_iload dL_isAdded_70 rfl ?_
        refine z_ic ki_4 dL_isAdded_72 ?_
        refine z_icmp_ge (tgt := 80) dL_isAdded_73 (by decide) (fun h73 => absurd h73 (nI_ge (by omega) (by decide))) (fun h73 => ?_)
        refine z_ic ki_1 dL_isAdded_76 ?_
        refine z_goto (tgt := 81) dL_isAdded_77 (by decide) ?_
        exact yes ⟨q1, q2, q3⟩
      · skip
        refine z_istore dL_isAdded_34 (by decide) ?_
        refine z_iload dL_isAdded_36 rfl ?_
        refine z_if_ne (tgt := 212) dL_isAdded_38 (by decide) (fun h38 => absurd h38 (by decide)) (fun h38 => ?_)
        refine z_iload dL_isAdded_41 rfl ?_
        refine z_aload dL_isAdded_43 rfl rfl ?_
        refine z_ic ki_0 dL_isAdded_45 ?_
        refine z_iaload dL_isAdded_46 (WA_3 h) rfl (by decide) (by decide) ?_
        refine z_ic ki_1 dL_isAdded_47 ?_
        refine z_iadd dL_isAdded_48 ?_
        rw [g2, nI_add]
        refine z_irem dL_isAdded_49 hz ?_
        rw [e1]
        refine z_istore dL_isAdded_50 (by decide) ?_
        refine z_iload dL_isAdded_52 rfl ?_
        refine z_ic ki_5 dL_isAdded_54 ?_
        refine z_irem dL_isAdded_55 (by decide) ?_
        rw [e5]
        refine z_istore dL_isAdded_56 (by decide) ?_
        refine z_iload dL_isAdded_58 rfl ?_
        refine z_ldc dL_isAdded_60 lc_RL_99 ?_
        rw [c_1m]
        refine z_icmp_ge (tgt := 80) dL_isAdded_62 (by decide) (fun h62 => absurd h62 (nI_ge (by omega) (by decide))) (fun h62 => ?_)
        refine z_iload dL_isAdded_65 rfl ?_
        refine z_if_le (tgt := 80) dL_isAdded_67 (by decide) (fun h67 => absurd h67 (nI_nle (by omega) (by omega))) (fun h67 => ?_)
        refine z_iload dL_isAdded_70 rfl ?_
        refine z_ic ki_4 dL_isAdded_72 ?_
        refine z_icmp_ge (tgt := 80) dL_isAdded_73 (by decide) (fun h73 => ?_) (fun h73 => absurd (nI_le (by omega) (by omega)) h73)
        refine z_ic ki_0 dL_isAdded_80 ?_
        exact no (fun z => q3 z.2.2)
    · have hm0 : m = 0 := by omega
      refine z_istore dL_isAdded_34 (by decide) ?_
      refine z_iload dL_isAdded_36 rfl ?_
      refine z_if_ne (tgt := 212) dL_isAdded_38 (by decide) (fun h38 => absurd h38 (by decide)) (fun h38 => ?_)
      refine z_iload dL_isAdded_41 rfl ?_
      refine z_aload dL_isAdded_43 rfl rfl ?_
      refine z_ic ki_0 dL_isAdded_45 ?_
      refine z_iaload dL_isAdded_46 (WA_3 h) rfl (by decide) (by decide) ?_
      refine z_ic ki_1 dL_isAdded_47 ?_
      refine z_iadd dL_isAdded_48 ?_
      rw [g2, nI_add]
      refine z_irem dL_isAdded_49 hz ?_
      rw [e1]
      refine z_istore dL_isAdded_50 (by decide) ?_
      refine z_iload dL_isAdded_52 rfl ?_
      refine z_ic ki_5 dL_isAdded_54 ?_
      refine z_irem dL_isAdded_55 (by decide) ?_
      rw [e5]
      refine z_istore dL_isAdded_56 (by decide) ?_
      refine z_iload dL_isAdded_58 rfl ?_
      refine z_ldc dL_isAdded_60 lc_RL_99 ?_
      rw [c_1m]
      refine z_icmp_ge (tgt := 80) dL_isAdded_62 (by decide) (fun h62 => absurd h62 (nI_ge (by omega) (by decide))) (fun h62 => ?_)
      refine z_iload dL_isAdded_65 rfl ?_
      refine z_if_le (tgt := 80) dL_isAdded_67 (by decide) (fun h67 => ?_) (fun h67 => absurd (by rw [hm0]; decide) h67)
      refine z_ic ki_0 dL_isAdded_80 ?_
      exact no (fun z => q2 z.2.1)
  · skip
    refine z_istore dL_isAdded_34 (by decide) ?_
    refine z_iload dL_isAdded_36 rfl ?_
    refine z_if_ne (tgt := 212) dL_isAdded_38 (by decide) (fun h38 => absurd h38 (by decide)) (fun h38 => ?_)
    refine z_iload dL_isAdded_41 rfl ?_
    refine z_aload dL_isAdded_43 rfl rfl ?_
    refine z_ic ki_0 dL_isAdded_45 ?_
    refine z_iaload dL_isAdded_46 (WA_3 h) rfl (by decide) (by decide) ?_
    refine z_ic ki_1 dL_isAdded_47 ?_
    refine z_iadd dL_isAdded_48 ?_
    rw [g2, nI_add]
    refine z_irem dL_isAdded_49 hz ?_
    rw [e1]
    refine z_istore dL_isAdded_50 (by decide) ?_
    refine z_iload dL_isAdded_52 rfl ?_
    refine z_ic ki_5 dL_isAdded_54 ?_
    refine z_irem dL_isAdded_55 (by decide) ?_
    rw [e5]
    refine z_istore dL_isAdded_56 (by decide) ?_
    refine z_iload dL_isAdded_58 rfl ?_
    refine z_ldc dL_isAdded_60 lc_RL_99 ?_
    rw [c_1m]
    refine z_icmp_ge (tgt := 80) dL_isAdded_62 (by decide) (fun h62 => ?_) (fun h62 => absurd (nI_le (by omega) (by omega)) h62)
    refine z_ic ki_0 dL_isAdded_80 ?_
    exact no (fun z => q1 z.1)
end STEPD
