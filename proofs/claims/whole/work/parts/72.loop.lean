/-! the law: its loop, its beginning -/
def PLaw : PO := fun r _ => r = .inl (some (.int 1))
theorem four_sub {L i : Nat} (hL : L ≤ 2048) (hi : i ≤ L) (h : ¬ nI L - nI 4 < nI i) : i + 3 < L := by
  have h1 : (nI L).toInt = L := nI_toInt (by omega)
  have h2 : (nI i).toInt = i := nI_toInt (by omega)
  have h4 : (nI 4).toInt = 4 := by decide
  have h3 : (nI L - nI 4).toInt = (L : Int) - 4 := by
    rw [Int32.toInt_sub, h1, h4, Int.bmod_eq_of_le (by omega) (by omega)]
  have h5 : ¬ (nI L - nI 4).toInt < (nI i).toInt := fun q => h (Int32.lt_iff_toInt_lt.mpr q)
  rw [h3, h2] at h5
  omega
theorem ca_20 {y : Int32} (h : ¬ (y.toInt < 0 ∨ 19 < y.toInt)) : y.toInt = 0 ∨ y.toInt = 1 ∨ y.toInt = 2 ∨ y.toInt = 3 ∨ y.toInt = 4 ∨ y.toInt = 5 ∨ y.toInt = 6 ∨ y.toInt = 7 ∨ y.toInt = 8 ∨ y.toInt = 9 ∨ y.toInt = 10 ∨ y.toInt = 11 ∨ y.toInt = 12 ∨ y.toInt = 13 ∨ y.toInt = 14 ∨ y.toInt = 15 ∨ y.toInt = 16 ∨ y.toInt = 17 ∨ y.toInt = 18 ∨ y.toInt = 19 := by omega
theorem law_loop (g : GG) (hL : g.L ≤ 2048) {A0 : Nat → Nat → Nat} : ∀ (n k : Nat), k + n = 513 → ∀ (A : Nat → Nat → Nat) (σ : ST) (x : XT) (M : Mem), AK A0 A → INV (2000000 + 1000 * k) σ → W2 g A σ σ x M → rbk σ x.rb → 4 * k ≤ g.L → tri g mL_law (16 * n) (1000 * n) PLaw M 23 [(0, .ref g.b), (1, .ref (A0 0 0)), (2, .ref (A0 20 0)), (3, .ref (A0 22 0)), (4, .int (nI (4 * k)))] [] := by
  intro n
  induction n with
  | zero =>
    intro k hk A σ x M hA hI hW hb hkL
    omega
  | succ n ih =>
    intro k hk A σ x M hA hI hW hb hkL
    have hKi : 4 * k + 3 < g.L → LK g A0 (2000000 + 1000 * k) (16 * n) (1000 * n) PLaw (4 * k) := by
      intro hi A2 τ x2 M2 hA2 hI2 hW2 hb2
      have hgo := ih (k + 1) (by omega) A2 τ x2 M2 hA2 (hI2.up (by omega)) hW2 hb2 (by omega)
      refine z_inc (n := 4) (v := nI 4) ki_4 dL_law_1314 rfl (by decide) ?_
      rw [nI_add]
      refine z_goto (tgt := 23) dL_law_1317 (by decide) ?_
      exact hgo
    refine z_iload dL_law_23 rfl ?_
    refine z_aload_n dL_law_25 rfl rfl ?_
    refine z_slen dL_law_26 ?_
    refine z_ic ki_4 dL_law_27 ?_
    refine z_isub dL_law_28 ?_
    refine z_icmp_gt (tgt := 1320) dL_law_29 (by decide) (fun h29 => ?_) (fun h29 => ?_)
    · refine z_ic ki_1 dL_law_1320 ?_
      refine z_ireturn dL_law_1321 rfl (bI_nar true) ?_
      exact rfl
    · have hi := four_sub hL hkL h29
      have hK := hKi hi
      refine z_aload_n dL_law_32 rfl rfl ?_
      refine z_iload dL_law_33 rfl ?_
      refine z_sld dL_law_35 rfl (by omega) hL ?_
      refine z_bi kb_31 dL_law_36 ?_
      refine z_iand dL_law_38 ?_
      generalize g.xs (4 * k) &&& nI 31 = y
      by_cases hy : y.toInt < 0 ∨ 19 < y.toInt
      · refine z_tsOut (tgt := 1314) dL_law_39 hy (by decide) ?_
        exact (hK A σ x M hA (hI.up (by omega)) hW hb).wk (by omega) (by omega)
      · rcases ca_20 hy with e | e | e | e | e | e | e | e | e | e | e | e | e | e | e | e | e | e | e | e
        · refine z_tsIn (off := 93) (tgt := 132) dL_law_39 (by omega) (by omega) (by rw [e]; rfl) (by decide) ?_
          exact (case_addFormat g hI ⟨by omega, by omega⟩ hA hW hb hK hi hL).wk (by omega) (by omega)
        · refine z_tsIn (off := 149) (tgt := 188) dL_law_39 (by omega) (by omega) (by rw [e]; rfl) (by decide) ?_
          exact (case_setRisk g hI ⟨by omega, by omega⟩ hA hW hb hK hi hL).wk (by omega) (by omega)
        · refine z_tsIn (off := 217) (tgt := 256) dL_law_39 (by omega) (by omega) (by rw [e]; rfl) (by decide) ?_
          exact (case_addConversion g hI ⟨by omega, by omega⟩ hA hW hb hK hi hL).wk (by omega) (by omega)
        · refine z_tsIn (off := 297) (tgt := 336) dL_law_39 (by omega) (by omega) (by rw [e]; rfl) (by decide) ?_
          exact (case_bestWay g hI ⟨by omega, by omega⟩ hA hW hb hK hi hL).wk (by omega) (by omega)
        · refine z_tsIn (off := 365) (tgt := 404) dL_law_39 (by omega) (by omega) (by rw [e]; rfl) (by decide) ?_
          exact (case_deposit g hI ⟨by omega, by omega⟩ hA hW hb hK hi hL).wk (by omega) (by omega)
        · refine z_tsIn (off := 445) (tgt := 484) dL_law_39 (by omega) (by omega) (by rw [e]; rfl) (by decide) ?_
          exact (case_revise g hI ⟨by omega, by omega⟩ hA hW hb hK hi hL).wk (by omega) (by omega)
        · refine z_tsIn (off := 541) (tgt := 580) dL_law_39 (by omega) (by omega) (by rw [e]; rfl) (by decide) ?_
          exact (case_convert g hI ⟨by omega, by omega⟩ hA hW hb hK hi hL).wk (by omega) (by omega)
        · refine z_tsIn (off := 609) (tgt := 648) dL_law_39 (by omega) (by omega) (by rw [e]; rfl) (by decide) ?_
          exact (case_purge g hI ⟨by omega, by omega⟩ hA hW hb hK hi hL).wk (by omega) (by omega)
        · refine z_tsIn (off := 677) (tgt := 716) dL_law_39 (by omega) (by omega) (by rw [e]; rfl) (by decide) ?_
          exact (case_versions g hI ⟨by omega, by omega⟩ hA hW hb hK hi hL).wk (by omega) (by omega)
        · refine z_tsIn (off := 733) (tgt := 772) dL_law_39 (by omega) (by omega) (by rw [e]; rfl) (by decide) ?_
          exact (case_unitOf g hI ⟨by omega, by omega⟩ hA hW hb hK hi hL).wk (by omega) (by omega)
        · refine z_tsIn (off := 801) (tgt := 840) dL_law_39 (by omega) (by omega) (by rw [e]; rfl) (by decide) ?_
          exact (case_read g hI ⟨by omega, by omega⟩ hA hW hb hK hi hL).wk (by omega) (by omega)
        · refine z_tsIn (off := 869) (tgt := 908) dL_law_39 (by omega) (by omega) (by rw [e]; rfl) (by decide) ?_
          exact (case_atRisk g hI ⟨by omega, by omega⟩ hA hW hb hK hi hL).wk (by omega) (by omega)
        · refine z_tsIn (off := 925) (tgt := 964) dL_law_39 (by omega) (by omega) (by rw [e]; rfl) (by decide) ?_
          exact (case_units g hI ⟨by omega, by omega⟩ hA hW hb hK hi hL).wk (by omega) (by omega)
        · refine z_tsIn (off := 938) (tgt := 977) dL_law_39 (by omega) (by omega) (by rw [e]; rfl) (by decide) ?_
          exact (case_sites g hI ⟨by omega, by omega⟩ hA hW hb hK hi hL).wk (by omega) (by omega)
        · refine z_tsIn (off := 994) (tgt := 1033) dL_law_39 (by omega) (by omega) (by rw [e]; rfl) (by decide) ?_
          exact (case_sound g hI ⟨by omega, by omega⟩ hA hW hb hK hi hL).wk (by omega) (by omega)
        · refine z_tsIn (off := 1050) (tgt := 1089) dL_law_39 (by omega) (by omega) (by rw [e]; rfl) (by decide) ?_
          exact (case_damage g hI ⟨by omega, by omega⟩ hA hW hb hK hi hL).wk (by omega) (by omega)
        · refine z_tsIn (off := 1137) (tgt := 1176) dL_law_39 (by omega) (by omega) (by rw [e]; rfl) (by decide) ?_
          exact (case_toggleSite g hI ⟨by omega, by omega⟩ hA hW hb hK hi hL).wk (by omega) (by omega)
        · refine z_tsIn (off := 1193) (tgt := 1232) dL_law_39 (by omega) (by omega) (by rw [e]; rfl) (by decide) ?_
          exact (case_audit g hI ⟨by omega, by omega⟩ hA hW hb hK hi hL).wk (by omega) (by omega)
        · refine z_tsIn (off := 1249) (tgt := 1288) dL_law_39 (by omega) (by omega) (by rw [e]; rfl) (by decide) ?_
          exact (case_replicate g hI ⟨by omega, by omega⟩ hA hW hb hK hi hL).wk (by omega) (by omega)
        · refine z_tsIn (off := 1262) (tgt := 1301) dL_law_39 (by omega) (by omega) (by rw [e]; rfl) (by decide) ?_
          exact (case_lacking g hI ⟨by omega, by omega⟩ hA hW hb hK hi hL).wk (by omega) (by omega)
theorem law_tri (g : GG) (hL : g.L ≤ 2048) : tri g mL_law 9000 600000 PLaw (fun _ => none) 0 [(0, .ref g.b)] [] := by
  have I0 : INI (fun _ => False) (fun _ => none) [] (fun _ => none) := INI.nil (fun z hz => hz.elim)
  refine z_new dL_law_0 nw_RL_8 (by decide) (by decide) (fun a ha => ?_)
  refine z_dup dL_law_3 rfl ?_
  have I1 := INI.new (q := a) I0 ha (ob 6 [.null, .null, .null])
  refine z_ipQ dL_law_4 ci_RL_71 (c_X5_init g I1.at) ⟨⟨by decide, by decide⟩, (by first | exact Nat.zero_le _ | decide | omega), (by first | exact Nat.zero_le _ | decide | omega)⟩ rfl rfl (Nat.le_of_ble_eq_true rfl) (fun M4 hQ4 => ?_)
  obtain ⟨f, p, q, r', s, u, c, o, ol, hF⟩ := hQ4
  have I2 := I1.call hF
  refine z_astore_n dL_law_7 (by decide) rfl ?_
  refine z_new dL_law_8 nw_RL_72 (by decide) (by decide) (fun m hm => ?_)
  refine z_dup dL_law_11 rfl ?_
  have I3 := I2.new hm (ob 7 [.int 0, .null, .null, .null, .int 0, .null, .null, .null, .null, .null, .null, .int 0, .null, .null, .null, .null, .null, .null, .null, .int 0, .int 0])
  refine z_ipQ dL_law_12 ci_RL_74 (c_X6_init g I3.at) ⟨⟨by decide, by decide⟩, (by first | exact Nat.zero_le _ | decide | omega), (by first | exact Nat.zero_le _ | decide | omega)⟩ rfl rfl (Nat.le_of_ble_eq_true rfl) (fun M12 hQ12 => ?_)
  obtain ⟨r, hR⟩ := hQ12
  have I4 := I3.call hR
  refine z_astore_n dL_law_15 (by decide) rfl ?_
  refine z_ic ki_1 dL_law_16 ?_
  refine z_newarray_long dL_law_17 ac_long rfl (by decide) (by decide) (by decide) (fun q17 hq17 => ?_)
  refine z_astore_n dL_law_19 (by decide) rfl ?_
  refine z_ic ki_0 dL_law_20 ?_
  refine z_istore dL_law_21 (by decide) ?_
  have I5 : INI (fun _ => False) (fun _ => none) (wL g a f p q r' s u c o ol m r q17) _ := I4.new hq17 (aJ 1 (fun _ => 0))
  have hW := world_0 g I5
  exact (law_loop g hL (A0 := wA a f p q r' s u c o ol m r q17) 513 0 rfl (wA a f p q r' s u c o ol m r q17) st0 xt0 _ (AK.refl _) inv_0 hW (fun v hv => absurd hv.1 (Nat.not_lt_zero _)) (Nat.zero_le _)).wk (by decide) (by decide)
