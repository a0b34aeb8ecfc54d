/-! the law's steps: damage -/
theorem sub1_le {a b : Nat} (h : a ≤ b + 1) (ha : a < 2 ^ 30) (hb : b < 2 ^ 30) : ¬ nI b < nI a - nI 1 := fun q => by
  have q1 := Int32.lt_iff_toInt_lt.mp q
  rw [pk_sub_toInt ha (by decide), nI_toInt (n := b) (by omega)] at q1
  omega
section STEPK
variable (g : GG) {A0 : Nat → Nat → Nat} {B : Nat} {σ : ST} {ar : Nat → Nat → Int32} {dm tg : Bool} {M : Mem}
theorem a_sitesU (hI : INV B σ) (h : WA g A0 σ ar M) {k : Nat} (hk : k < 2 ^ 31) (hU : isU σ (nI k) = true) : con g mX5_sites 1 6 [.ref (A0 0 0), .int (nI k)] M (rQ (some (.int (bset (σ.cp k) 4))) (WA g A0 σ ar)) := by
  have e : tN (nI k) = k := nI_clamp hk
  refine rO_q (a_sites g hI h (nI k)) ?_ ?_
  · unfold o_sites
    rw [if_pos hU]
  · unfold o_sites
    rw [if_pos hU, e]
theorem c_L_isCopy0 (hI : INV B σ) (hB : B + 1000 < 2147483648) (hP : PI σ dm tg) (hR : LR σ ar dm tg) (hE : LE σ ar 1000) (h : WA g A0 σ ar M) {one two three : Nat} (h1 : one < 2 ^ 31) (h2 : two < 2 ^ 31) (h3 : three < 2 ^ 31) : con g mL_isCopy 12 72 [.ref (A0 0 0), .ref (A0 20 3), .int (nI 0), .int (nI one), .int (nI two), .int (nI three)] M (rQ (some (.int (nI 1))) (JQ g A0 B)) := by
  refine con_i ?_ (by decide) rfl rfl (by simp [lv_args, Value.category]) (by simp [lv_args, lnd, Value.category])
  have hR2 := hR
  obtain ⟨g1, ⟨g2, g3, g4, g5, g6⟩, g7, g8, g9⟩ := hR2
  have hu60 := un_60 hI g1
  have e1 : nI one - nI one / nI 5 * nI 5 = nI (one % 5) := pk_rem h1 (by decide) (by decide)
  have l1 : one % 5 < 5 := Nat.mod_lt _ (by decide)
  generalize one % 5 = s at e1 l1
  have e2 : nI two - nI two / nI 20 * nI 20 = nI (two % 20) := pk_rem h2 (by decide) (by decide)
  have l2 : two % 20 < 20 := Nat.mod_lt _ (by decide)
  generalize two % 20 = u at e2 l2
  have e3 : nI three - nI three / nI 2003 * nI 2003 = nI (three % 2003) := pk_rem h3 (by decide) (by decide)
  have l3 : three % 2003 < 2003 := Nat.mod_lt _ (by decide)
  generalize three % 2003 = t at e3 l3
  have hci : (nI t - nI 1001).toInt = (t : Int) - 1001 := pk_sub_toInt (by omega) (by decide)
  generalize hch : nI t - nI 1001 = ch at hci
  have es : tN (nI s) = s := nI_clamp (by omega)
  have eu : tN (nI u) = u := nI_clamp (by omega)
  have hcc : ∀ u, cpc σ u 4 ≤ 4 := fun u => cpc_le σ u 4
  have hsn := snn_le σ u 4
  -- not right
  have no : dmOk (nI s) (nI u) ch = false → tri g mL_isCopy 12 72 (rQ (some (.int (nI 1))) (JQ g A0 B)) M 60 [(0, .ref (A0 0 0)), (1, .ref (A0 20 3)), (2, .int (nI 0)), (3, .int (nI one)), (4, .int (nI two)), (5, .int (nI three)), (6, .int (nI s)), (7, .int (nI u)), (8, .int ch)] [.int (nI 0)] := by
    intro hd
    have eo : o_damage σ (nI s) (nI u) ch = (1, nI 0, σ) := by
      unfold o_damage
      rw [hd, if_neg (by decide)]
    refine z_istore dL_isCopy_60 (by decide) ?_
    refine z_aload_n dL_isCopy_62 rfl rfl ?_
    refine z_ic ki_0 dL_isCopy_63 ?_
    refine z_iload dL_isCopy_64 rfl ?_
    refine z_ic ki_0 dL_isCopy_66 ?_
    refine z_ic ki_0 dL_isCopy_67 ?_
    refine z_isXQ (dd := mL_copies) dL_isCopy_68 cw_RL_74 rfl ⟨by decide, by decide⟩ (n := 5) (by decide +kernel) (h_sites g hI h (nI u) (nI 0) (nI 0)) ⟨⟨by decide, by decide⟩, (by first | exact Nat.zero_le _ | decide | omega), (by first | exact Nat.zero_le _ | decide | omega)⟩ rfl rfl (Nat.le_of_ble_eq_true rfl) (fun M68 hQ68 => ?_)
    refine z_istore dL_isCopy_71 (by decide) ?_
    refine z_iload dL_isCopy_73 rfl ?_
    refine z_if_eq (tgt := 98) dL_isCopy_75 (by decide) (fun h75 => ?_) (fun h75 => absurd (by decide) h75)
    refine z_ic ki_0 dL_isCopy_98 ?_
    refine z_istore dL_isCopy_99 (by decide) ?_
    refine z_iload dL_isCopy_101 rfl ?_
    refine z_if_eq (tgt := 115) dL_isCopy_103 (by decide) (fun h103 => ?_) (fun h103 => absurd (by decide) h103)
    refine z_ic ki_0 dL_isCopy_115 ?_
    refine z_istore dL_isCopy_116 (by decide) ?_
    refine z_aload_n dL_isCopy_118 rfl rfl ?_
    refine z_ic ki_2 dL_isCopy_119 ?_
    refine z_iload dL_isCopy_120 rfl ?_
    refine z_iload dL_isCopy_122 rfl ?_
    refine z_iload dL_isCopy_124 rfl ?_
    refine z_isXQ (dd := mL_copies) dL_isCopy_126 cw_RL_74 rfl ⟨by decide, by decide⟩ (n := 5) (by decide +kernel) (h_damage g hI hB hQ68 (nI s) (nI u) ch) ⟨⟨by decide, by decide⟩, (by first | exact Nat.zero_le _ | decide | omega), (by first | exact Nat.zero_le _ | decide | omega)⟩ rfl rfl (Nat.le_of_ble_eq_true rfl) (fun M126 hQ126 => ?_)
    obtain ⟨τ, i1, s1, w1⟩ := hQ126
    rw [eo] at s1
    have w2 := WA_p3 w1 3 (ar 3 3)
    rw [f2_id] at w2
    refine z_istore dL_isCopy_129 (by decide) ?_
    refine z_aload_n dL_isCopy_131 rfl rfl ?_
    refine z_ic ki_3 dL_isCopy_132 ?_
    refine z_iload dL_isCopy_133 rfl ?_
    refine z_if_eq (tgt := 142) dL_isCopy_135 (by decide) (fun h135 => ?_) (fun h135 => absurd (by decide) h135)
    refine z_aload_n dL_isCopy_142 rfl rfl ?_
    refine z_ic ki_3 dL_isCopy_143 ?_
    refine z_iaload dL_isCopy_144 (WA_3 w1) rfl (by decide) (by decide) ?_
    refine z_iastore dL_isCopy_145 (WA_3 w1) rfl (by decide) (by decide) ?_
    refine z_iload dL_isCopy_146 rfl ?_
    refine z_if_ne (tgt := 166) dL_isCopy_148 (by decide) (fun h148 => absurd h148 (by decide)) (fun h148 => ?_)
    refine z_iload dL_isCopy_151 rfl ?_
    refine z_bi kb_m20 dL_isCopy_153 ?_
    refine z_icmp_ne (tgt := 162) dL_isCopy_155 (by decide) (fun h155 => absurd h155 (fun q => q (tl_1 (by rw [eo])))) (fun h155 => ?_)
    refine z_ic ki_1 dL_isCopy_158 ?_
    refine z_goto (tgt := 247) dL_isCopy_159 (by decide) ?_
    refine z_ireturn dL_isCopy_247 rfl (by first | rfl | exact bI_nar _) ?_
    exact rQ_of (JQ_same (o := (0, nI 0, σ)) hP hR hE rfl ⟨τ, i1, s1, w2⟩)
  -- right
  have yes : s < 4 → dmOk (nI s) (nI u) ch = true → tri g mL_isCopy 12 72 (rQ (some (.int (nI 1))) (JQ g A0 B)) M 60 [(0, .ref (A0 0 0)), (1, .ref (A0 20 3)), (2, .int (nI 0)), (3, .int (nI one)), (4, .int (nI two)), (5, .int (nI three)), (6, .int (nI s)), (7, .int (nI u)), (8, .int ch)] [.int (nI 1)] := by
    intro hs hd
    cases hU : isU σ (nI u) with
    | false =>
      have eo : o_damage σ (nI s) (nI u) ch = (2, nI 0, σ) := by
        unfold o_damage
        rw [hd, if_pos rfl, hU, Bool.false_and, if_neg (by decide)]
      have e68 : tl (o_sites σ (nI u)) (-30) (-30) (-30) = -30 := by rw [t_sites, hU, if_neg (by decide)]
      refine z_istore dL_isCopy_60 (by decide) ?_
      refine z_aload_n dL_isCopy_62 rfl rfl ?_
      refine z_ic ki_0 dL_isCopy_63 ?_
      refine z_iload dL_isCopy_64 rfl ?_
      refine z_ic ki_0 dL_isCopy_66 ?_
      refine z_ic ki_0 dL_isCopy_67 ?_
      refine z_isXQ (dd := mL_copies) dL_isCopy_68 cw_RL_74 rfl ⟨by decide, by decide⟩ (n := 5) (by decide +kernel) (h_sites g hI h (nI u) (nI 0) (nI 0)) ⟨⟨by decide, by decide⟩, (by first | exact Nat.zero_le _ | decide | omega), (by first | exact Nat.zero_le _ | decide | omega)⟩ rfl rfl (Nat.le_of_ble_eq_true rfl) (fun M68 hQ68 => ?_)
      rw [e68]
      refine z_istore dL_isCopy_71 (by decide) ?_
      refine z_iload dL_isCopy_73 rfl ?_
      refine z_if_eq (tgt := 98) dL_isCopy_75 (by decide) (fun h75 => absurd h75 (by decide)) (fun h75 => ?_)
      refine z_iload dL_isCopy_78 rfl ?_
      refine z_if_lt (tgt := 98) dL_isCopy_80 (by decide) (fun h80 => ?_) (fun h80 => absurd (by decide) h80)
      refine z_ic ki_0 dL_isCopy_98 ?_
      refine z_istore dL_isCopy_99 (by decide) ?_
      refine z_iload dL_isCopy_101 rfl ?_
      refine z_if_eq (tgt := 115) dL_isCopy_103 (by decide) (fun h103 => ?_) (fun h103 => absurd (by decide) h103)
      refine z_ic ki_0 dL_isCopy_115 ?_
      refine z_istore dL_isCopy_116 (by decide) ?_
      refine z_aload_n dL_isCopy_118 rfl rfl ?_
      refine z_ic ki_2 dL_isCopy_119 ?_
      refine z_iload dL_isCopy_120 rfl ?_
      refine z_iload dL_isCopy_122 rfl ?_
      refine z_iload dL_isCopy_124 rfl ?_
      refine z_isXQ (dd := mL_copies) dL_isCopy_126 cw_RL_74 rfl ⟨by decide, by decide⟩ (n := 5) (by decide +kernel) (h_damage g hI hB hQ68 (nI s) (nI u) ch) ⟨⟨by decide, by decide⟩, (by first | exact Nat.zero_le _ | decide | omega), (by first | exact Nat.zero_le _ | decide | omega)⟩ rfl rfl (Nat.le_of_ble_eq_true rfl) (fun M126 hQ126 => ?_)
      obtain ⟨τ, i1, s1, w1⟩ := hQ126
      rw [eo] at s1
      have w2 := WA_p3 w1 3 (ar 3 3)
      rw [f2_id] at w2
      refine z_istore dL_isCopy_129 (by decide) ?_
      refine z_aload_n dL_isCopy_131 rfl rfl ?_
      refine z_ic ki_3 dL_isCopy_132 ?_
      refine z_iload dL_isCopy_133 rfl ?_
      refine z_if_eq (tgt := 142) dL_isCopy_135 (by decide) (fun h135 => ?_) (fun h135 => absurd (by decide) h135)
      refine z_aload_n dL_isCopy_142 rfl rfl ?_
      refine z_ic ki_3 dL_isCopy_143 ?_
      refine z_iaload dL_isCopy_144 (WA_3 w1) rfl (by decide) (by decide) ?_
      refine z_iastore dL_isCopy_145 (WA_3 w1) rfl (by decide) (by decide) ?_
      refine z_iload dL_isCopy_146 rfl ?_
      refine z_if_ne (tgt := 166) dL_isCopy_148 (by decide) (fun h148 => ?_) (fun h148 => absurd h148 (by decide))
      refine z_iload dL_isCopy_166 rfl ?_
      refine z_if_ne (tgt := 186) dL_isCopy_168 (by decide) (fun h168 => absurd h168 (by decide)) (fun h168 => ?_)
      refine z_iload dL_isCopy_171 rfl ?_
      refine z_bi kb_m30 dL_isCopy_173 ?_
      refine z_icmp_ne (tgt := 182) dL_isCopy_175 (by decide) (fun h175 => absurd h175 (fun q => q (tl_2 (by rw [eo])))) (fun h175 => ?_)
      refine z_ic ki_1 dL_isCopy_178 ?_
      refine z_goto (tgt := 247) dL_isCopy_179 (by decide) ?_
      refine z_ireturn dL_isCopy_247 rfl (by first | rfl | exact bI_nar _) ?_
      exact rQ_of (JQ_same (o := (0, nI 0, σ)) hP hR hE rfl ⟨τ, i1, s1, w2⟩)
    | true =>
      have e68 : tl (o_sites σ (nI u)) (-30) (-30) (-30) = bset (σ.cp u) 4 := by rw [t_sites, hU, if_pos rfl, eu]
      have etb : (bset (σ.cp u) 4 >>> (nI s &&& 31)) &&& nI 1 = bI (σ.cp u s) := tx4 _ hs
      cases hc : σ.cp u s with
      | false =>
        have eo : o_damage σ (nI s) (nI u) ch = (2, nI 0, σ) := by
          unfold o_damage
          rw [hd, if_pos rfl, hU, eu, es, hc, Bool.and_false, if_neg (by decide)]
        refine z_istore dL_isCopy_60 (by decide) ?_
        refine z_aload_n dL_isCopy_62 rfl rfl ?_
        refine z_ic ki_0 dL_isCopy_63 ?_
        refine z_iload dL_isCopy_64 rfl ?_
        refine z_ic ki_0 dL_isCopy_66 ?_
        refine z_ic ki_0 dL_isCopy_67 ?_
        refine z_isXQ (dd := mL_copies) dL_isCopy_68 cw_RL_74 rfl ⟨by decide, by decide⟩ (n := 5) (by decide +kernel) (h_sites g hI h (nI u) (nI 0) (nI 0)) ⟨⟨by decide, by decide⟩, (by first | exact Nat.zero_le _ | decide | omega), (by first | exact Nat.zero_le _ | decide | omega)⟩ rfl rfl (Nat.le_of_ble_eq_true rfl) (fun M68 hQ68 => ?_)
        rw [e68]
        refine z_istore dL_isCopy_71 (by decide) ?_
        refine z_iload dL_isCopy_73 rfl ?_
        refine z_if_eq (tgt := 98) dL_isCopy_75 (by decide) (fun h75 => absurd h75 (by decide)) (fun h75 => ?_)
        refine z_iload dL_isCopy_78 rfl ?_
        refine z_if_lt (tgt := 98) dL_isCopy_80 (by decide) (fun h80 => absurd h80 (bset4_pos _)) (fun h80 => ?_)
        refine z_iload dL_isCopy_83 rfl ?_
        refine z_iload dL_isCopy_85 rfl ?_
        refine z_ishr dL_isCopy_87 ?_
        refine z_ic ki_1 dL_isCopy_88 ?_
        refine z_iand dL_isCopy_89 ?_
        rw [etb, hc]
        refine z_ic ki_1 dL_isCopy_90 ?_
        refine z_icmp_ne (tgt := 98) dL_isCopy_91 (by decide) (fun h91 => ?_) (fun h91 => absurd h91 (by decide))
        refine z_ic ki_0 dL_isCopy_98 ?_
        refine z_istore dL_isCopy_99 (by decide) ?_
        refine z_iload dL_isCopy_101 rfl ?_
        refine z_if_eq (tgt := 115) dL_isCopy_103 (by decide) (fun h103 => ?_) (fun h103 => absurd (by decide) h103)
        refine z_ic ki_0 dL_isCopy_115 ?_
        refine z_istore dL_isCopy_116 (by decide) ?_
        refine z_aload_n dL_isCopy_118 rfl rfl ?_
        refine z_ic ki_2 dL_isCopy_119 ?_
        refine z_iload dL_isCopy_120 rfl ?_
        refine z_iload dL_isCopy_122 rfl ?_
        refine z_iload dL_isCopy_124 rfl ?_
        refine z_isXQ (dd := mL_copies) dL_isCopy_126 cw_RL_74 rfl ⟨by decide, by decide⟩ (n := 5) (by decide +kernel) (h_damage g hI hB hQ68 (nI s) (nI u) ch) ⟨⟨by decide, by decide⟩, (by first | exact Nat.zero_le _ | decide | omega), (by first | exact Nat.zero_le _ | decide | omega)⟩ rfl rfl (Nat.le_of_ble_eq_true rfl) (fun M126 hQ126 => ?_)
        obtain ⟨τ, i1, s1, w1⟩ := hQ126
        rw [eo] at s1
        have w2 := WA_p3 w1 3 (ar 3 3)
        rw [f2_id] at w2
        refine z_istore dL_isCopy_129 (by decide) ?_
        refine z_aload_n dL_isCopy_131 rfl rfl ?_
        refine z_ic ki_3 dL_isCopy_132 ?_
        refine z_iload dL_isCopy_133 rfl ?_
        refine z_if_eq (tgt := 142) dL_isCopy_135 (by decide) (fun h135 => ?_) (fun h135 => absurd (by decide) h135)
        refine z_aload_n dL_isCopy_142 rfl rfl ?_
        refine z_ic ki_3 dL_isCopy_143 ?_
        refine z_iaload dL_isCopy_144 (WA_3 w1) rfl (by decide) (by decide) ?_
        refine z_iastore dL_isCopy_145 (WA_3 w1) rfl (by decide) (by decide) ?_
        refine z_iload dL_isCopy_146 rfl ?_
        refine z_if_ne (tgt := 166) dL_isCopy_148 (by decide) (fun h148 => ?_) (fun h148 => absurd h148 (by decide))
        refine z_iload dL_isCopy_166 rfl ?_
        refine z_if_ne (tgt := 186) dL_isCopy_168 (by decide) (fun h168 => absurd h168 (by decide)) (fun h168 => ?_)
        refine z_iload dL_isCopy_171 rfl ?_
        refine z_bi kb_m30 dL_isCopy_173 ?_
        refine z_icmp_ne (tgt := 182) dL_isCopy_175 (by decide) (fun h175 => absurd h175 (fun q => q (tl_2 (by rw [eo])))) (fun h175 => ?_)
        refine z_ic ki_1 dL_isCopy_178 ?_
        refine z_goto (tgt := 247) dL_isCopy_179 (by decide) ?_
        refine z_ireturn dL_isCopy_247 rfl (by first | rfl | exact bI_nar _) ?_
        exact rQ_of (JQ_same (o := (0, nI 0, σ)) hP hR hE rfl ⟨τ, i1, s1, w2⟩)
      | true =>
        generalize hS : σ.sh u s (σ.hs u s + ch) = S
        have eo : o_damage σ (nI s) (nI u) ch = (0, bI (snd S u s), S) := by
          unfold o_damage
          rw [hd, if_pos rfl, hU, eu, es, hc, Bool.and_true, if_pos rfl, hS]
        have e126 : tl (o_damage σ (nI s) (nI u) ch) (-20) (-30) (-30) = bI (snd S u s) := by rw [tl_0 (by rw [eo]), eo]
        have hsd : ∀ x, x ≠ s → snd S u x = snd σ u x := fun x hx => by
          rw [← hS]
          unfold snd
          have e : (σ.sh u s (σ.hs u s + ch)).hs u x = σ.hs u x := f2_n (fun z => hx z.2)
          rw [e]
          rfl
        obtain ⟨d1, d2⟩ := snn_d hsd 4
        rw [if_pos hs] at d1 d2
        have hcu := hcc u
        refine z_istore dL_isCopy_60 (by decide) ?_
        refine z_aload_n dL_isCopy_62 rfl rfl ?_
        refine z_ic ki_0 dL_isCopy_63 ?_
        refine z_iload dL_isCopy_64 rfl ?_
        refine z_ic ki_0 dL_isCopy_66 ?_
        refine z_ic ki_0 dL_isCopy_67 ?_
        refine z_isXQ (dd := mL_copies) dL_isCopy_68 cw_RL_74 rfl ⟨by decide, by decide⟩ (n := 5) (by decide +kernel) (h_sites g hI h (nI u) (nI 0) (nI 0)) ⟨⟨by decide, by decide⟩, (by first | exact Nat.zero_le _ | decide | omega), (by first | exact Nat.zero_le _ | decide | omega)⟩ rfl rfl (Nat.le_of_ble_eq_true rfl) (fun M68 hQ68 => ?_)
        rw [e68]
        refine z_istore dL_isCopy_71 (by decide) ?_
        refine z_iload dL_isCopy_73 rfl ?_
        refine z_if_eq (tgt := 98) dL_isCopy_75 (by decide) (fun h75 => absurd h75 (by decide)) (fun h75 => ?_)
        refine z_iload dL_isCopy_78 rfl ?_
        refine z_if_lt (tgt := 98) dL_isCopy_80 (by decide) (fun h80 => absurd h80 (bset4_pos _)) (fun h80 => ?_)
        refine z_iload dL_isCopy_83 rfl ?_
        refine z_iload dL_isCopy_85 rfl ?_
        refine z_ishr dL_isCopy_87 ?_
        refine z_ic ki_1 dL_isCopy_88 ?_
        refine z_iand dL_isCopy_89 ?_
        rw [etb, hc]
        refine z_ic ki_1 dL_isCopy_90 ?_
        refine z_icmp_ne (tgt := 98) dL_isCopy_91 (by decide) (fun h91 => absurd h91 (fun q => q rfl)) (fun h91 => ?_)
        refine z_ic ki_1 dL_isCopy_94 ?_
        refine z_goto (tgt := 99) dL_isCopy_95 (by decide) ?_
        refine z_istore dL_isCopy_99 (by decide) ?_
        refine z_iload dL_isCopy_101 rfl ?_
        refine z_if_eq (tgt := 115) dL_isCopy_103 (by decide) (fun h103 => absurd h103 (by decide)) (fun h103 => ?_)
        refine z_aload_n dL_isCopy_106 rfl rfl ?_
        refine z_iload dL_isCopy_107 rfl ?_
        refine z_ivW dL_isCopy_109 cv_RL_61 hQ68 (a_soundU g hI hQ68 (by omega) hU) ⟨⟨by decide, by decide⟩, (by first | exact Nat.zero_le _ | decide | omega), (by first | exact Nat.zero_le _ | decide | omega)⟩ rfl rfl (Nat.le_of_ble_eq_true rfl) (fun M109 hQ109 => ?_)
        refine z_goto (tgt := 116) dL_isCopy_112 (by decide) ?_
        refine z_istore dL_isCopy_116 (by decide) ?_
        refine z_aload_n dL_isCopy_118 rfl rfl ?_
        refine z_ic ki_2 dL_isCopy_119 ?_
        refine z_iload dL_isCopy_120 rfl ?_
        refine z_iload dL_isCopy_122 rfl ?_
        refine z_iload dL_isCopy_124 rfl ?_
        refine z_isXQ (dd := mL_copies) dL_isCopy_126 cw_RL_74 rfl ⟨by decide, by decide⟩ (n := 5) (by decide +kernel) (h_damage g hI hB hQ109 (nI s) (nI u) ch) ⟨⟨by decide, by decide⟩, (by first | exact Nat.zero_le _ | decide | omega), (by first | exact Nat.zero_le _ | decide | omega)⟩ rfl rfl (Nat.le_of_ble_eq_true rfl) (fun M126 hQ126 => ?_)
        obtain ⟨τ, i1, s1, w1⟩ := hQ126
        rw [eo] at s1
        rw [e126]
        have w2 := WA_p3 w1 3 (nI 1)
        obtain ⟨a1, a2, a3, a4, a5, a6, a7⟩ := sim_u s1
        have eU : isU τ (nI u) = true := by
          unfold isU at hU ⊢
          rw [show τ.un = σ.un from (a4 2).trans (by rw [← hS]; rfl), show τ.b 1 (tN (nI u)) = σ.b 1 (tN (nI u)) from (a2 1 _).trans (by rw [← hS]; rfl)]
          exact hU
        have ec : τ.cp u = σ.cp u := funext fun x => (a7 u x).trans (by rw [← hS]; rfl)
        have esn : ∀ x, snd τ u x = snd S u x := fun x => snd_at (funext fun y => a7 u y) (funext fun y => a6 u y) (a3 2 (by decide) u) x
        have en : snn τ u 4 = snn S u 4 := by
          have k1 := (snn_d (σ := S) (τ := τ) (u := u) (s := 4) (fun x _ => esn x) 4)
          rw [if_neg (by decide)] at k1
          omega
        refine z_istore dL_isCopy_129 (by decide) ?_
        refine z_aload_n dL_isCopy_131 rfl rfl ?_
        refine z_ic ki_3 dL_isCopy_132 ?_
        refine z_iload dL_isCopy_133 rfl ?_
        refine z_if_eq (tgt := 142) dL_isCopy_135 (by decide) (fun h135 => absurd h135 (by decide)) (fun h135 => ?_)
        refine z_ic ki_1 dL_isCopy_138 ?_
        refine z_goto (tgt := 145) dL_isCopy_139 (by decide) ?_
        refine z_iastore dL_isCopy_145 (WA_3 w1) rfl (by decide) (by decide) ?_
        refine z_iload dL_isCopy_146 rfl ?_
        refine z_if_ne (tgt := 166) dL_isCopy_148 (by decide) (fun h148 => ?_) (fun h148 => absurd h148 (by decide))
        refine z_iload dL_isCopy_166 rfl ?_
        refine z_if_ne (tgt := 186) dL_isCopy_168 (by decide) (fun h168 => ?_) (fun h168 => absurd h168 (by decide))
        refine z_iload dL_isCopy_186 rfl ?_
        refine z_if_lt (tgt := 246) dL_isCopy_188 (by decide) (fun h188 => absurd h188 (by cases snd S u s <;> decide)) (fun h188 => ?_)
        refine z_aload_n dL_isCopy_191 rfl rfl ?_
        refine z_iload dL_isCopy_192 rfl ?_
        refine z_ivW dL_isCopy_194 cv_RL_61 w2 (a_soundU g i1 w2 (by omega) eU) ⟨⟨by decide, by decide⟩, (by first | exact Nat.zero_le _ | decide | omega), (by first | exact Nat.zero_le _ | decide | omega)⟩ rfl rfl (Nat.le_of_ble_eq_true rfl) (fun M194 hQ194 => ?_)
        refine z_iload dL_isCopy_197 rfl ?_
        refine z_ic ki_1 dL_isCopy_199 ?_
        refine z_isub dL_isCopy_200 ?_
        rw [en]
        refine z_icmp_lt (tgt := 246) dL_isCopy_201 (by decide) (fun h201 => absurd h201 (sub1_le (by omega) (by omega) (by omega))) (fun h201 => ?_)
        refine z_aload_n dL_isCopy_204 rfl rfl ?_
        refine z_iload dL_isCopy_205 rfl ?_
        refine z_ivW dL_isCopy_207 cv_RL_61 hQ194 (a_soundU g i1 hQ194 (by omega) eU) ⟨⟨by decide, by decide⟩, (by first | exact Nat.zero_le _ | decide | omega), (by first | exact Nat.zero_le _ | decide | omega)⟩ rfl rfl (Nat.le_of_ble_eq_true rfl) (fun M207 hQ207 => ?_)
        refine z_iload dL_isCopy_210 rfl ?_
        refine z_ic ki_1 dL_isCopy_212 ?_
        refine z_iadd dL_isCopy_213 ?_
        rw [en, nI_add]
        refine z_icmp_gt (tgt := 246) dL_isCopy_214 (by decide) (fun h214 => absurd h214 (nI_nlt (by omega) (by omega))) (fun h214 => ?_)
        refine z_iload dL_isCopy_217 rfl ?_
        refine z_if_eq (tgt := 231) dL_isCopy_219 (by decide) (fun h219 => ?_) (fun h219 => ?_)
        · refine z_aload_n dL_isCopy_231 rfl rfl ?_
          refine z_iload dL_isCopy_232 rfl ?_
          refine z_ivW dL_isCopy_234 cv_RL_58 (by assumption) (a_sitesU g i1 (by assumption) (by omega) eU) ⟨⟨by decide, by decide⟩, (by first | exact Nat.zero_le _ | decide | omega), (by first | exact Nat.zero_le _ | decide | omega)⟩ rfl rfl (Nat.le_of_ble_eq_true rfl) (fun M234 hQ234 => ?_)
          refine z_iload dL_isCopy_237 rfl ?_
          refine z_icmp_ne (tgt := 246) dL_isCopy_239 (by decide) (fun h239 => absurd h239 (fun q => q (by rw [ec]))) (fun h239 => ?_)
          refine z_ic ki_1 dL_isCopy_242 ?_
          refine z_goto (tgt := 247) dL_isCopy_243 (by decide) ?_
          refine z_ireturn dL_isCopy_247 rfl (by first | rfl | exact bI_nar _) ?_
          have hP' : PI S true tg := by
            rw [← hS]
            exact PI_dam hP _ _ _
          have hs' : SO σ S := by
            rw [← hS]
            exact ⟨rfl, fun _ => ⟨rfl, rfl, rfl, rfl⟩, fun _ => ⟨rfl, rfl⟩, fun _ => rfl⟩
          have e0 : ∀ i k, i ≠ 3 → f2 ar 3 3 (nI 1) i k = ar i k := fun i k q1 => by rw [f2_a q1]
          refine rQ_of (JQ_so (o := (0, nI 0, S)) (dm' := true) (tg' := tg) hR hE hs' hP' rfl ⟨τ, i1, s1, hQ234⟩ ⟨?_, ?_, ?_, ?_, ?_⟩ (fun f hf => ?_) (fun j hj => ⟨e0 1 _ (by decide), e0 2 _ (by decide), e0 2 _ (by decide)⟩) (fun w => e0 0 _ (by decide)) (fun w => e0 4 _ (by decide)))
          · rw [f2_n (fun z => absurd z.2 (by decide)), g2, ← hS]
            rfl
          · rw [f2_n (fun z => absurd z.2 (by decide))]
          · rw [f2_n (fun z => absurd z.2 (by decide)), g4, ← hS]
            rfl
          · rw [f2_s]
            rfl
          · rw [f2_n (fun z => absurd z.2 (by decide)), g6]
          · rw [e0 1 _ (by decide)]
            rw [← hS] at hf ⊢
            exact g7 f hf
        · refine z_aload_n dL_isCopy_222 rfl rfl ?_
          refine z_iload dL_isCopy_223 rfl ?_
          refine z_ivW dL_isCopy_225 cv_RL_61 hQ207 (a_soundU g i1 hQ207 (by omega) eU) ⟨⟨by decide, by decide⟩, (by first | exact Nat.zero_le _ | decide | omega), (by first | exact Nat.zero_le _ | decide | omega)⟩ rfl rfl (Nat.le_of_ble_eq_true rfl) (fun M225 hQ225 => ?_)
          rw [en]
          refine z_if_le (tgt := 246) dL_isCopy_228 (by decide) (fun h228 => absurd h228 (nI_nle (snn_pos (yt h219) 4 hs) (by omega))) (fun h228 => ?_)
          refine z_aload_n dL_isCopy_231 rfl rfl ?_
          refine z_iload dL_isCopy_232 rfl ?_
          refine z_ivW dL_isCopy_234 cv_RL_58 (by assumption) (a_sitesU g i1 (by assumption) (by omega) eU) ⟨⟨by decide, by decide⟩, (by first | exact Nat.zero_le _ | decide | omega), (by first | exact Nat.zero_le _ | decide | omega)⟩ rfl rfl (Nat.le_of_ble_eq_true rfl) (fun M234 hQ234 => ?_)
          refine z_iload dL_isCopy_237 rfl ?_
          refine z_icmp_ne (tgt := 246) dL_isCopy_239 (by decide) (fun h239 => absurd h239 (fun q => q (by rw [ec]))) (fun h239 => ?_)
          refine z_ic ki_1 dL_isCopy_242 ?_
          refine z_goto (tgt := 247) dL_isCopy_243 (by decide) ?_
          refine z_ireturn dL_isCopy_247 rfl (by first | rfl | exact bI_nar _) ?_
          have hP' : PI S true tg := by
            rw [← hS]
            exact PI_dam hP _ _ _
          have hs' : SO σ S := by
            rw [← hS]
            exact ⟨rfl, fun _ => ⟨rfl, rfl, rfl, rfl⟩, fun _ => ⟨rfl, rfl⟩, fun _ => rfl⟩
          have e0 : ∀ i k, i ≠ 3 → f2 ar 3 3 (nI 1) i k = ar i k := fun i k q1 => by rw [f2_a q1]
          refine rQ_of (JQ_so (o := (0, nI 0, S)) (dm' := true) (tg' := tg) hR hE hs' hP' rfl ⟨τ, i1, s1, hQ234⟩ ⟨?_, ?_, ?_, ?_, ?_⟩ (fun f hf => ?_) (fun j hj => ⟨e0 1 _ (by decide), e0 2 _ (by decide), e0 2 _ (by decide)⟩) (fun w => e0 0 _ (by decide)) (fun w => e0 4 _ (by decide)))
          · rw [f2_n (fun z => absurd z.2 (by decide)), g2, ← hS]
            rfl
          · rw [f2_n (fun z => absurd z.2 (by decide))]
          · rw [f2_n (fun z => absurd z.2 (by decide)), g4, ← hS]
            rfl
          · rw [f2_s]
            rfl
          · rw [f2_n (fun z => absurd z.2 (by decide)), g6]
          · rw [e0 1 _ (by decide)]
            rw [← hS] at hf ⊢
            exact g7 f hf
  have hdm : dmOk (nI s) (nI u) ch = (inK 0 3 (nI s) && (decide ((-1000) ≤ ch ∧ ch ≤ nI 1000) && !decide (ch = 0))) := rfl
  refine z_iload_n dL_isCopy_0 rfl ?_
  refine z_if_ne (tgt := 248) dL_isCopy_1 (by decide) (fun h1 => absurd h1 (by decide)) (fun h1 => ?_)
  refine z_iload_n dL_isCopy_4 rfl ?_
  refine z_ic ki_5 dL_isCopy_5 ?_
  refine z_irem dL_isCopy_6 (by decide) ?_
  rw [e1]
  refine z_istore dL_isCopy_7 (by decide) ?_
  refine z_iload dL_isCopy_9 rfl ?_
  refine z_bi kb_20 dL_isCopy_11 ?_
  refine z_irem dL_isCopy_13 (by decide) ?_
  rw [e2]
  refine z_istore dL_isCopy_14 (by decide) ?_
  refine z_iload dL_isCopy_16 rfl ?_
  refine z_si ks_2003 dL_isCopy_18 ?_
  refine z_irem dL_isCopy_21 (by decide) ?_
  refine z_si ks_1001 dL_isCopy_22 ?_
  rw [e3]
  refine z_isub dL_isCopy_25 ?_
  rw [hch]
  refine z_istore dL_isCopy_26 (by decide) ?_
  refine z_iload dL_isCopy_28 rfl ?_
  refine z_ic ki_4 dL_isCopy_30 ?_
  refine z_icmp_ge (tgt := 59) dL_isCopy_31 (by decide) (fun h31 => ?_) (fun h31 => ?_)
  · refine z_ic ki_0 dL_isCopy_59 ?_
    exact no (by rw [hdm, show inK 0 3 (nI s) = false from decide_eq_false (fun z => absurd ((nI_leI (by decide) (by omega)).mp h31) (by have := (nI_leI (by omega) (by decide)).mp z.2; omega)), Bool.false_and])
  · refine z_iload dL_isCopy_34 rfl ?_
    refine z_if_eq (tgt := 59) dL_isCopy_36 (by decide) (fun h36 => ?_) (fun h36 => ?_)
    · refine z_ic ki_0 dL_isCopy_59 ?_
      exact no (by rw [hdm, decide_eq_true (show ch = 0 from h36), Bool.not_true, Bool.and_false, Bool.and_false])
    · refine z_iload dL_isCopy_39 rfl ?_
      refine z_si ks_m1001 dL_isCopy_41 ?_
      refine z_icmp_le (tgt := 59) dL_isCopy_44 (by decide) (fun h44 => ?_) (fun h44 => ?_)
      · refine z_ic ki_0 dL_isCopy_59 ?_
        have k := Int32.le_iff_toInt_le.mp h44
        rw [show ((-1001 : Int32)).toInt = -1001 by decide] at k
        exact no (by rw [hdm, decide_eq_false (fun z => by
          have z1 := Int32.le_iff_toInt_le.mp z.1
          rw [show ((-1000 : Int32)).toInt = -1000 by decide] at z1
          omega), Bool.false_and, Bool.and_false])
      · refine z_iload dL_isCopy_47 rfl ?_
        refine z_si ks_1001 dL_isCopy_49 ?_
        refine z_icmp_ge (tgt := 59) dL_isCopy_52 (by decide) (fun h52 => ?_) (fun h52 => ?_)
        · refine z_ic ki_0 dL_isCopy_59 ?_
          have k := Int32.le_iff_toInt_le.mp h52
          rw [show (nI 1001).toInt = 1001 by decide] at k
          exact no (by rw [hdm, decide_eq_false (fun z => by
            have z1 := Int32.le_iff_toInt_le.mp z.2
            rw [show (nI 1000).toInt = 1000 by decide] at z1
            omega), Bool.false_and, Bool.and_false])
        · refine z_ic ki_1 dL_isCopy_55 ?_
          refine z_goto (tgt := 60) dL_isCopy_56 (by decide) ?_
          have k1 : ¬ ch.toInt ≤ -1001 := fun z => h44 (Int32.le_iff_toInt_le.mpr (by rw [show ((-1001 : Int32)).toInt = -1001 by decide]; exact z))
          have k2 : ¬ 1001 ≤ ch.toInt := fun z => h52 (Int32.le_iff_toInt_le.mpr (by rw [show (nI 1001).toInt = 1001 by decide]; exact z))
          have k3 : s < 4 := Classical.byContradiction fun z => h31 (nI_le (by omega) (by omega))
          refine yes k3 ?_
          rw [hdm, show inK 0 3 (nI s) = true from decide_eq_true ⟨nI_le (Nat.zero_le _) (by omega), nI_le (by omega) (by decide)⟩, decide_eq_false h36, decide_eq_true (show (-1000) ≤ ch ∧ ch ≤ nI 1000 from ⟨Int32.le_iff_toInt_le.mpr (by rw [show ((-1000 : Int32)).toInt = -1000 by decide]; omega), Int32.le_iff_toInt_le.mpr (by rw [show (nI 1000).toInt = 1000 by decide]; omega)⟩)]
          rfl
end STEPK
