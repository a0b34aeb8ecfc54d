/-! the law's steps: a version is purged -/
theorem cntB_split (f h : Nat → Bool) : ∀ n, cntB (fun u => f u && h u) n + cntB (fun u => f u && !h u) n = cntB f n
  | 0 => rfl
  | n + 1 => by
    have ih := cntB_split f h n
    unfold cntB
    cases f n <;> cases h n <;> simp <;> omega
/-- units behind a purge -/
theorem unn_pg {σ τ : ST} {p : Nat} (hs : sim (pgS (σ.sb 0 p false) σ.un) τ) : unn τ τ.un + pgN (σ.sb 0 p false) σ.un = unn σ σ.un := by
  obtain ⟨-, a2, -, a4, -, -, -⟩ := sim_u hs
  have en : τ.un = σ.un := (a4 2).trans (congrFun (pgS_same (σ.sb 0 p false) σ.un).1 2)
  have eb : ∀ u, u < σ.un → τ.b 1 u = (σ.b 1 u && ndd (σ.sb 0 p false) u 100) := fun u hu => by
    rw [a2 1 u, pgS_b, if_pos hu]
    rfl
  rw [unn_cnt, unn_cnt, en, cntB_ext σ.un eb, pgN_cnt]
  exact cntB_split (σ.b 1) (fun u => ndd (σ.sb 0 p false) u 100) σ.un
section STEPP
variable (g : GG) {A0 : Nat → Nat → Nat} {B : Nat} {σ : ST} {ar : Nat → Nat → Int32} {dm tg : Bool} {M : Mem}
theorem c_L_isPurged (hI : INV B σ) (hP : PI σ dm tg) (hR : LR σ ar dm tg) (hE : LE σ ar 1000) (h : WA g A0 σ ar M) {o v : Nat} (hob : o ≤ σ.ob) (hv : v < 10) : con g mL_isPurged 5 30 [.ref (A0 0 0), .ref (A0 20 1), .ref (A0 20 2), .ref (A0 20 3), .ref (A0 20 4), .int (nI o), .int (nI v)] M (rQ (some (.int (nI 1))) (JQ g A0 B)) := by
  refine con_i ?_ (by decide) rfl rfl (by simp [lv_args, Value.category]) (by simp [lv_args, lnd, Value.category])
  have hR2 := hR
  obtain ⟨g1, ⟨g2, g3, g4, g5, g6⟩, g7, g8, g9⟩ := hR2
  have h8 := hI.li.1
  have h10b := hI.wf.1.1
  have hun := hI.wf.1.2
  have hul := unn_le σ σ.un
  have eo' : tN (nI o) = o := nI_clamp (by omega)
  have ev' : tN (nI v) = v := nI_clamp (by omega)
  by_cases ho : o = σ.ob
  · have eo : o_purge σ (nI o) (nI v) = (1, nI 0, σ) := by
      unfold o_purge isV
      rw [ho, inR_no (by omega) (by omega) (Nat.le_refl _), Bool.false_and, if_neg (by decide)]
    refine z_iload dL_isPurged_0 rfl ?_
    refine z_aload_n dL_isPurged_2 rfl rfl ?_
    refine z_ic ki_1 dL_isPurged_3 ?_
    refine z_iaload dL_isPurged_4 (WA_3 h) rfl (by decide) (by decide) ?_
    rw [g3]
    refine z_icmp_eq (tgt := 20) dL_isPurged_5 (by decide) (fun h5 => ?_) (fun h5 => absurd (by rw [ho]) h5)
    refine z_aload_n dL_isPurged_20 rfl rfl ?_
    refine z_ic ki_3 dL_isPurged_21 ?_
    refine z_iload dL_isPurged_22 rfl ?_
    refine z_iload dL_isPurged_24 rfl ?_
    refine z_ic ki_0 dL_isPurged_26 ?_
    refine z_isXQ (dd := mL_versions) dL_isPurged_27 cw_RL_90 rfl ⟨by decide, by decide⟩ (n := 5) (by decide +kernel) (h_purge g hI h (nI o) (nI v) (nI 0)) ⟨⟨by decide, by decide⟩, (by first | exact Nat.zero_le _ | decide | omega), (by first | exact Nat.zero_le _ | decide | omega)⟩ rfl rfl (Nat.le_of_ble_eq_true rfl) (fun M27 hQ27 => ?_)
    refine z_bi kb_m30 dL_isPurged_30 ?_
    refine z_icmp_ne (tgt := 39) dL_isPurged_32 (by decide) (fun h32 => absurd h32 (fun q => q (tl_1 (by rw [eo])))) (fun h32 => ?_)
    refine z_ic ki_1 dL_isPurged_35 ?_
    refine z_goto (tgt := 40) dL_isPurged_36 (by decide) ?_
    refine z_ireturn dL_isPurged_40 rfl (by first | rfl | exact bI_nar _) ?_
    exact rQ_of (JQ_same hP hR hE (by rw [eo]) hQ27)
  · have hol : o < σ.ob := by omega
    obtain ⟨k1, k2, k3⟩ := g8 o hol
    have eV := isV_n (σ := σ) h10b hol hv
    have etb : (bset (fun i => σ.b 0 (10 * o + i)) 10 >>> (nI v &&& 31)) &&& nI 1 = bI (σ.b 0 (10 * o + v)) := tx10 _ hv
    cases hb : σ.b 0 (10 * o + v) with
    | false =>
      have eo : o_purge σ (nI o) (nI v) = (1, nI 0, σ) := by
        unfold o_purge
        rw [eV, hb, if_neg (by decide)]
      refine z_iload dL_isPurged_0 rfl ?_
      refine z_aload_n dL_isPurged_2 rfl rfl ?_
      refine z_ic ki_1 dL_isPurged_3 ?_
      refine z_iaload dL_isPurged_4 (WA_3 h) rfl (by decide) (by decide) ?_
      rw [g3]
      refine z_icmp_eq (tgt := 20) dL_isPurged_5 (by decide) (fun h5 => absurd h5 (fun q => ho ((nI_eq (by omega) (by omega)).mp q))) (fun h5 => ?_)
      refine z_aload_n dL_isPurged_8 rfl rfl ?_
      refine z_iload dL_isPurged_9 rfl ?_
      refine z_iaload dL_isPurged_11 (WA_2 h) rfl (by omega) (by decide) ?_
      rw [k2]
      refine z_iload dL_isPurged_12 rfl ?_
      refine z_ishr dL_isPurged_14 ?_
      refine z_ic ki_1 dL_isPurged_15 ?_
      refine z_iand dL_isPurged_16 ?_
      rw [etb, hb]
      refine z_if_ne (tgt := 41) dL_isPurged_17 (by decide) (fun h17 => absurd h17 (by decide)) (fun h17 => ?_)
      refine z_aload_n dL_isPurged_20 rfl rfl ?_
      refine z_ic ki_3 dL_isPurged_21 ?_
      refine z_iload dL_isPurged_22 rfl ?_
      refine z_iload dL_isPurged_24 rfl ?_
      refine z_ic ki_0 dL_isPurged_26 ?_
      refine z_isXQ (dd := mL_versions) dL_isPurged_27 cw_RL_90 rfl ⟨by decide, by decide⟩ (n := 5) (by decide +kernel) (h_purge g hI h (nI o) (nI v) (nI 0)) ⟨⟨by decide, by decide⟩, (by first | exact Nat.zero_le _ | decide | omega), (by first | exact Nat.zero_le _ | decide | omega)⟩ rfl rfl (Nat.le_of_ble_eq_true rfl) (fun M27 hQ27 => ?_)
      refine z_bi kb_m30 dL_isPurged_30 ?_
      refine z_icmp_ne (tgt := 39) dL_isPurged_32 (by decide) (fun h32 => absurd h32 (fun q => q (tl_1 (by rw [eo])))) (fun h32 => ?_)
      refine z_ic ki_1 dL_isPurged_35 ?_
      refine z_goto (tgt := 40) dL_isPurged_36 (by decide) ?_
      refine z_ireturn dL_isPurged_40 rfl (by first | rfl | exact bI_nar _) ?_
      exact rQ_of (JQ_same hP hR hE (by rw [eo]) hQ27)
    | true =>
      have hmp := many_pos hb 10 hv
      have hml := many_le σ o 10
      have ebits : cntB (fun k => σ.b 0 (10 * o + k)) 10 = many σ o 10 := cntB_many σ o 10
      by_cases hm : many σ o 10 = 1
      · have eo : o_purge σ (nI o) (nI v) = (2, nI 0, σ) := by
          unfold o_purge
          rw [eV, hb, if_pos rfl, eo', if_pos hm]
        refine z_iload dL_isPurged_0 rfl ?_
        refine z_aload_n dL_isPurged_2 rfl rfl ?_
        refine z_ic ki_1 dL_isPurged_3 ?_
        refine z_iaload dL_isPurged_4 (WA_3 h) rfl (by decide) (by decide) ?_
        rw [g3]
        refine z_icmp_eq (tgt := 20) dL_isPurged_5 (by decide) (fun h5 => absurd h5 (fun q => ho ((nI_eq (by omega) (by omega)).mp q))) (fun h5 => ?_)
        refine z_aload_n dL_isPurged_8 rfl rfl ?_
        refine z_iload dL_isPurged_9 rfl ?_
        refine z_iaload dL_isPurged_11 (WA_2 h) rfl (by omega) (by decide) ?_
        rw [k2]
        refine z_iload dL_isPurged_12 rfl ?_
        refine z_ishr dL_isPurged_14 ?_
        refine z_ic ki_1 dL_isPurged_15 ?_
        refine z_iand dL_isPurged_16 ?_
        rw [etb, hb]
        refine z_if_ne (tgt := 41) dL_isPurged_17 (by decide) (fun h17 => ?_) (fun h17 => absurd h17 (by decide))
        refine z_aload_n dL_isPurged_41 rfl rfl ?_
        refine z_ivW dL_isPurged_42 cv_RL_83 h (a_units g hI h) ⟨⟨by decide, by decide⟩, (by first | exact Nat.zero_le _ | decide | omega), (by first | exact Nat.zero_le _ | decide | omega)⟩ rfl rfl (Nat.le_of_ble_eq_true rfl) (fun M42 hQ42 => ?_)
        refine z_istore dL_isPurged_45 (by decide) ?_
        refine z_aload_n dL_isPurged_47 rfl rfl ?_
        refine z_iload dL_isPurged_48 rfl ?_
        refine z_iaload dL_isPurged_50 (WA_2 hQ42) rfl (by omega) (by decide) ?_
        rw [k2]
        refine z_isI dL_isPurged_51 cs_RL_80 (c_L_bits10 g (fun k => σ.b 0 (10 * o + k))) ⟨⟨by decide, by decide⟩, (by first | exact Nat.zero_le _ | decide | omega), (by first | exact Nat.zero_le _ | decide | omega)⟩ rfl rfl (Nat.le_of_ble_eq_true rfl) ?_
        refine z_ic ki_1 dL_isPurged_54 ?_
        refine z_icmp_le (tgt := 62) dL_isPurged_55 (by decide) (fun h55 => ?_) (fun h55 => absurd (by rw [ebits, hm]; exact Int32.le_refl _) h55)
        refine z_ic ki_0 dL_isPurged_62 ?_
        refine z_istore dL_isPurged_63 (by decide) ?_
        refine z_aload_n dL_isPurged_65 rfl rfl ?_
        refine z_ic ki_3 dL_isPurged_66 ?_
        refine z_iload dL_isPurged_67 rfl ?_
        refine z_iload dL_isPurged_69 rfl ?_
        refine z_ic ki_0 dL_isPurged_71 ?_
        refine z_isXQ (dd := mL_versions) dL_isPurged_72 cw_RL_90 rfl ⟨by decide, by decide⟩ (n := 5) (by decide +kernel) (h_purge g hI hQ42 (nI o) (nI v) (nI 0)) ⟨⟨by decide, by decide⟩, (by first | exact Nat.zero_le _ | decide | omega), (by first | exact Nat.zero_le _ | decide | omega)⟩ rfl rfl (Nat.le_of_ble_eq_true rfl) (fun M72 hQ72 => ?_)
        obtain ⟨τ, i1, s1, w1⟩ := hQ72
        rw [eo] at s1
        have eun : unn τ τ.un = unn σ σ.un := by
          obtain ⟨-, a2, -, a4, -, -, -⟩ := sim_u s1
          have en : τ.un = σ.un := a4 2
          rw [unn_cnt, unn_cnt, en]
          exact cntB_ext _ (fun u _ => a2 1 u)
        refine z_istore dL_isPurged_75 (by decide) ?_
        refine z_iload dL_isPurged_77 rfl ?_
        refine z_if_ne (tgt := 104) dL_isPurged_79 (by decide) (fun h79 => absurd h79 (by decide)) (fun h79 => ?_)
        refine z_iload dL_isPurged_82 rfl ?_
        refine z_bi kb_m10 dL_isPurged_84 ?_
        refine z_icmp_ne (tgt := 102) dL_isPurged_86 (by decide) (fun h86 => absurd h86 (fun q => q (tl_2 (by rw [eo])))) (fun h86 => ?_)
        refine z_aload_n dL_isPurged_89 rfl rfl ?_
        refine z_ivW dL_isPurged_90 cv_RL_83 w1 (a_units g i1 w1) ⟨⟨by decide, by decide⟩, (by first | exact Nat.zero_le _ | decide | omega), (by first | exact Nat.zero_le _ | decide | omega)⟩ rfl rfl (Nat.le_of_ble_eq_true rfl) (fun M90 hQ90 => ?_)
        refine z_iload dL_isPurged_93 rfl ?_
        refine z_icmp_ne (tgt := 102) dL_isPurged_95 (by decide) (fun h95 => absurd h95 (fun q => q (by rw [eun]))) (fun h95 => ?_)
        refine z_ic ki_1 dL_isPurged_98 ?_
        refine z_goto (tgt := 103) dL_isPurged_99 (by decide) ?_
        refine z_ireturn dL_isPurged_103 rfl (by first | rfl | exact bI_nar _) ?_
        exact rQ_of (JQ_same (o := (0, nI 0, σ)) hP hR hE rfl ⟨τ, i1, s1, hQ90⟩)
      · have eo : o_purge σ (nI o) (nI v) = (0, nI (pgN (σ.sb 0 (10 * o + v) false) σ.un), pgS (σ.sb 0 (10 * o + v) false) σ.un) := by
          unfold o_purge
          rw [eV, hb, if_pos rfl, eo', ev', if_neg hm]
        obtain ⟨kx, kx1, kx2, kx3⟩ := many_ex (σ := σ) (o := o) (k0 := v) 10 (by rw [if_pos hv]; omega)
        generalize hF : f1 (fun k => σ.b 0 (10 * o + k)) v false = F
        have eF : ∀ k, F k = if k = v then false else σ.b 0 (10 * o + k) := fun k => by rw [← hF]; rfl
        have hex : ∃ k, k < 10 ∧ F k = true := ⟨kx, kx1, by rw [eF, if_neg kx2]; exact kx3⟩
        obtain ⟨m1, m2, m3⟩ := hib_is (f := F) 10 hex
        have hcl : ∀ M', con g mL_latest 0 0 [.int (bset F 10)] M' (rI (nI (hib F 10)) M') := fun M' => c_L_latest g (M := M') (f := F) hex
        generalize hib F 10 = l at m1 m2 m3 hcl
        have hbo : bset (fun k => σ.b 0 (10 * o + k)) 10 &&& ((nI 1 <<< (nI v &&& 31)) ^^^ (-1)) = bset F 10 := by rw [← bset_off _ hv, hF]
        have m2b : l ≠ v ∧ σ.b 0 (10 * o + l) = true := by
          rw [eF] at m2
          by_cases q : l = v
          · rw [if_pos q] at m2
            cases m2
          · rw [if_neg q] at m2
            exact ⟨q, m2⟩
        have hl4 : ar 4 (10 * o + l) = nI (σ.a 2 (10 * o + l)) := hE _ m2b.2 (by omega)
        refine z_iload dL_isPurged_0 rfl ?_
        refine z_aload_n dL_isPurged_2 rfl rfl ?_
        refine z_ic ki_1 dL_isPurged_3 ?_
        refine z_iaload dL_isPurged_4 (WA_3 h) rfl (by decide) (by decide) ?_
        rw [g3]
        refine z_icmp_eq (tgt := 20) dL_isPurged_5 (by decide) (fun h5 => absurd h5 (fun q => ho ((nI_eq (by omega) (by omega)).mp q))) (fun h5 => ?_)
        refine z_aload_n dL_isPurged_8 rfl rfl ?_
        refine z_iload dL_isPurged_9 rfl ?_
        refine z_iaload dL_isPurged_11 (WA_2 h) rfl (by omega) (by decide) ?_
        rw [k2]
        refine z_iload dL_isPurged_12 rfl ?_
        refine z_ishr dL_isPurged_14 ?_
        refine z_ic ki_1 dL_isPurged_15 ?_
        refine z_iand dL_isPurged_16 ?_
        rw [etb, hb]
        refine z_if_ne (tgt := 41) dL_isPurged_17 (by decide) (fun h17 => ?_) (fun h17 => absurd h17 (by decide))
        refine z_aload_n dL_isPurged_41 rfl rfl ?_
        refine z_ivW dL_isPurged_42 cv_RL_83 h (a_units g hI h) ⟨⟨by decide, by decide⟩, (by first | exact Nat.zero_le _ | decide | omega), (by first | exact Nat.zero_le _ | decide | omega)⟩ rfl rfl (Nat.le_of_ble_eq_true rfl) (fun M42 hQ42 => ?_)
        refine z_istore dL_isPurged_45 (by decide) ?_
        refine z_aload_n dL_isPurged_47 rfl rfl ?_
        refine z_iload dL_isPurged_48 rfl ?_
        refine z_iaload dL_isPurged_50 (WA_2 hQ42) rfl (by omega) (by decide) ?_
        rw [k2]
        refine z_isI dL_isPurged_51 cs_RL_80 (c_L_bits10 g (fun k => σ.b 0 (10 * o + k))) ⟨⟨by decide, by decide⟩, (by first | exact Nat.zero_le _ | decide | omega), (by first | exact Nat.zero_le _ | decide | omega)⟩ rfl rfl (Nat.le_of_ble_eq_true rfl) ?_
        refine z_ic ki_1 dL_isPurged_54 ?_
        refine z_icmp_le (tgt := 62) dL_isPurged_55 (by decide) (fun h55 => absurd h55 (by rw [ebits]; exact nI_ge (by omega) (by omega))) (fun h55 => ?_)
        refine z_ic ki_1 dL_isPurged_58 ?_
        refine z_goto (tgt := 63) dL_isPurged_59 (by decide) ?_
        refine z_istore dL_isPurged_63 (by decide) ?_
        refine z_aload_n dL_isPurged_65 rfl rfl ?_
        refine z_ic ki_3 dL_isPurged_66 ?_
        refine z_iload dL_isPurged_67 rfl ?_
        refine z_iload dL_isPurged_69 rfl ?_
        refine z_ic ki_0 dL_isPurged_71 ?_
        refine z_isXQ (dd := mL_versions) dL_isPurged_72 cw_RL_90 rfl ⟨by decide, by decide⟩ (n := 5) (by decide +kernel) (h_purge g hI hQ42 (nI o) (nI v) (nI 0)) ⟨⟨by decide, by decide⟩, (by first | exact Nat.zero_le _ | decide | omega), (by first | exact Nat.zero_le _ | decide | omega)⟩ rfl rfl (Nat.le_of_ble_eq_true rfl) (fun M72 hQ72 => ?_)
        obtain ⟨τ, i1, s1, w1⟩ := hQ72
        rw [eo] at s1
        have eun := unn_pg s1
        have e72 : tl (o_purge σ (nI o) (nI v)) (-30) (-10) (-10) = nI (pgN (σ.sb 0 (10 * o + v) false) σ.un) := by rw [tl_0 (by rw [eo]), eo]
        rw [e72]
        refine z_istore dL_isPurged_75 (by decide) ?_
        refine z_iload dL_isPurged_77 rfl ?_
        refine z_if_ne (tgt := 104) dL_isPurged_79 (by decide) (fun h79 => ?_) (fun h79 => absurd h79 (by decide))
        refine z_aload_n dL_isPurged_104 rfl rfl ?_
        refine z_iload dL_isPurged_105 rfl ?_
        refine z_dup2 dL_isPurged_107 rfl rfl ?_
        refine z_iaload dL_isPurged_108 (WA_2 w1) rfl (by omega) (by decide) ?_
        rw [k2]
        refine z_ic ki_1 dL_isPurged_109 ?_
        refine z_iload dL_isPurged_110 rfl ?_
        refine z_ishl dL_isPurged_112 ?_
        refine z_ic ki_m1 dL_isPurged_113 ?_
        refine z_ixor dL_isPurged_114 ?_
        refine z_iand dL_isPurged_115 ?_
        rw [hbo]
        have w2 := WA_p2 w1 o (bset F 10)
        have e133 : f2 ar 2 o (bset F 10) 2 o = bset F 10 := f2_s
        have e138 : f2 ar 2 o (bset F 10) 4 (10 * o + l) = nI (σ.a 2 (10 * o + l)) := by rw [f2_a (by decide), hl4]
        have w3 := WA_p2 w2 (6 + o) (nI (σ.a 2 (10 * o + l)))
        refine z_iastore dL_isPurged_116 (WA_2 w1) rfl (by omega) (by decide) ?_
        refine z_aload_n dL_isPurged_117 rfl rfl ?_
        refine z_bi kb_6 dL_isPurged_118 ?_
        refine z_iload dL_isPurged_120 rfl ?_
        refine z_iadd dL_isPurged_122 ?_
        refine z_aload dL_isPurged_123 rfl rfl ?_
        refine z_bi kb_10 dL_isPurged_125 ?_
        refine z_iload dL_isPurged_127 rfl ?_
        refine z_imul dL_isPurged_129 ?_
        refine z_aload_n dL_isPurged_130 rfl rfl ?_
        refine z_iload dL_isPurged_131 rfl ?_
        refine z_iaload dL_isPurged_133 (WA_2 w2) rfl (by omega) (by decide) ?_
        rw [e133]
        refine z_isI dL_isPurged_134 cs_RL_101 (hcl _) ⟨⟨by decide, by decide⟩, (by first | exact Nat.zero_le _ | decide | omega), (by first | exact Nat.zero_le _ | decide | omega)⟩ rfl rfl (Nat.le_of_ble_eq_true rfl) ?_
        refine z_iadd dL_isPurged_137 ?_
        refine z_iaload dL_isPurged_138 (WA_4 w2) (ix10 o l) (by omega) (by decide) ?_
        rw [e138]
        refine z_iastore dL_isPurged_139 (WA_2 w2) (nI_add 6 o) (by omega) (by decide) ?_
        refine z_iload dL_isPurged_140 rfl ?_
        refine z_if_lt (tgt := 161) dL_isPurged_142 (by decide) (fun h142 => absurd h142 (nI_pos (by omega))) (fun h142 => ?_)
        refine z_aload_n dL_isPurged_145 rfl rfl ?_
        refine z_ivW dL_isPurged_146 cv_RL_83 w3 (a_units g i1 w3) ⟨⟨by decide, by decide⟩, (by first | exact Nat.zero_le _ | decide | omega), (by first | exact Nat.zero_le _ | decide | omega)⟩ rfl rfl (Nat.le_of_ble_eq_true rfl) (fun M146 hQ146 => ?_)
        refine z_iload dL_isPurged_149 rfl ?_
        refine z_iload dL_isPurged_151 rfl ?_
        refine z_isub dL_isPurged_153 ?_
        refine z_icmp_ne (tgt := 161) dL_isPurged_154 (by decide) (fun h154 => absurd h154 (fun q => q (by rw [pk_sub (by omega)]; exact congrArg nI (by omega)))) (fun h154 => ?_)
        refine z_ic ki_1 dL_isPurged_157 ?_
        refine z_goto (tgt := 162) dL_isPurged_158 (by decide) ?_
        refine z_ireturn dL_isPurged_162 rfl (by first | rfl | exact bI_nar _) ?_
        obtain ⟨a1, a2, a3, a4, a5, -, -⟩ := sim_u s1
        obtain ⟨p1, p2, p3, p4, -, p6⟩ := pgS_same (σ.sb 0 (10 * o + v) false) σ.un
        have ea : ∀ k, k < 6 → ∀ j, τ.a k j = σ.a k j := fun k hk j => (a1 k hk j).trans (congrFun (congrFun p2 k) j)
        have en : ∀ i, τ.n i = σ.n i := fun i => (a4 i).trans (congrFun p1 i)
        have ei : ∀ i, i ≠ 4 → ∀ j, τ.i i j = σ.i i j := fun i hi j => (a3 i hi j).trans (congrFun (congrFun p3 i) j)
        have eb : ∀ i, i ≠ 1 → i ≠ 0 → ∀ j, τ.b i j = σ.b i j := fun i h1 h0 j => (a2 i j).trans ((congrFun (p4 i h1) j).trans (congrFun (show f2 σ.2.2.2.1 0 (10 * o + v) false i = σ.2.2.2.1 i from f2_a h0) j))
        have eb0 : ∀ j, τ.b 0 j = if j = 10 * o + v then false else σ.b 0 j := fun j => by
          refine (a2 0 j).trans ((congrFun (p4 0 (by decide)) j).trans ?_)
          show f2 σ.2.2.2.1 0 (10 * o + v) false 0 j = _
          unfold f2
          by_cases q : j = 10 * o + v
          · rw [if_pos ⟨rfl, q⟩, if_pos q]
          · rw [if_neg (fun z => q z.2), if_neg q]
            rfl
        have hPS : PI (σ.sb 0 (10 * o + v) false) dm tg := PI_eq hP rfl rfl (fun _ _ => rfl) (fun _ => rfl) (fun _ => rfl) (fun _ => rfl) (fun _ => rfl) (fun _ _ => rfl) (fun _ _ => rfl)
        have hP' := PI_sim (PI_pgS hPS σ.un) s1
        have eob : τ.ob = σ.ob := en 1
        have efo : τ.fo = σ.fo := en 0
        have hlat : latn τ o 10 = 10 * o + l := latn_is (by rw [eb0, if_neg (by omega)]; exact m2b.2) 10 m1 (fun j h1 h2 => by
          have z := m3 j h1 h2
          rw [eF] at z
          rw [eb0]
          by_cases q : j = v
          · rw [if_pos (by omega)]
          · rw [if_neg q] at z
            rw [if_neg (by omega)]
            exact z)
        refine rQ_of ⟨τ, _, dm, tg, i1, hP', ⟨by rw [eob]; exact g1, ⟨?_, ?_, ?_, ?_, ?_⟩, fun f hf => ?_, fun j hj => ?_, fun w hw => ?_⟩, fun w hw hne => ?_, hQ146⟩
        · rw [f2_a (by decide), f2_a (by decide), g2, efo]
        · rw [f2_a (by decide), f2_a (by decide), g3, eob]
        · rw [f2_a (by decide), f2_a (by decide), g4]
          exact bset_ext 4 (fun s _ => (eb 4 (by decide) (by decide) s).symm)
        · rw [f2_a (by decide), f2_a (by decide), g5]
        · rw [f2_a (by decide), f2_a (by decide), g6]
        · rw [efo] at hf
          rw [f2_a (by decide), f2_a (by decide), ei 0 (by decide)]
          exact g7 f hf
        · rw [eob] at hj
          obtain ⟨n1, n2, n3⟩ := g8 j hj
          rw [f2_a (show (1 : Nat) ≠ 2 by decide), f2_a (show (1 : Nat) ≠ 2 by decide), ea 1 (by decide)]
          refine ⟨n1, ?_, ?_⟩
          · rw [f2_n (fun z => by have := z.2; omega)]
            by_cases q : j = o
            · rw [q, f2_s]
              exact bset_ext 10 (fun k hk => by
                rw [eF, eb0]
                by_cases z : k = v
                · rw [if_pos z, if_pos (by omega)]
                · rw [if_neg z, if_neg (by omega)])
            · rw [f2_n (fun z => q z.2), n2]
              exact bset_ext 10 (fun k hk => by rw [eb0, if_neg (by omega)])
          · by_cases q : j = o
            · rw [q, f2_s, hlat, ea 2 (by decide)]
            · rw [f2_n (fun z => q (by have := z.2; omega)), f2_n (fun z => by have := z.2; omega), n3, ea 2 (by decide), latn_eq (σ := σ) (τ := τ) 10 (fun k hk => by rw [eb0, if_neg (by omega)])]
        · have hw2 : vok σ w := by
            unfold vok at hw ⊢
            rw [eob, ea 1 (by decide)] at hw
            exact hw
          rw [f2_a (by decide), f2_a (by decide), g9 w hw2]
          exact (cont_c (ea 3 (by decide)) (ea 4 (by decide)) (eb 2 (by decide) (by decide)) (ei 2 (by decide)) w).symm
        · rw [eb0] at hw
          rw [f2_a (by decide), f2_a (by decide), ea 2 (by decide)]
          by_cases q : w = 10 * o + v
          · rw [if_pos q] at hw
            cases hw
          · rw [if_neg q] at hw
            exact hE w hw hne
end STEPP
