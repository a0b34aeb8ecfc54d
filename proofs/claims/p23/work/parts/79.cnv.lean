/-! the law's steps: a version is converted -/
theorem cv_law (s w : Int32) : nI 1000 * ((s - s / nI 1000 * nI 1000 + nI 1000) - (s - s / nI 1000 * nI 1000 + nI 1000) / nI 1000 * nI 1000) + (w / nI 100 - w / nI 100 / nI 1000 * nI 1000) = cvC s w := by
  have hk : (nI 1000).toInt = 1000 := by decide
  have hb := rem_bd s (y := nI 1000) (by rw [hk]; decide)
  rw [hk] at hb
  unfold cvC rem1k
  generalize s - s / nI 1000 * nI 1000 = x at hb ⊢
  have hx : (x + nI 1000).toInt = x.toInt + 1000 := by rw [Int32.toInt_add, hk, Int.bmod_eq_of_le (by omega) (by omega)]
  have key : (x + nI 1000) - (x + nI 1000) / nI 1000 * nI 1000 = if x < 0 then x + nI 1000 else x := by
    apply Int32.toInt_inj.mp
    rw [rem_toInt, hx, hk, Int.tmod_eq_emod_of_nonneg (by omega)]
    split
    · rename_i h
      have h3 := Int32.lt_iff_toInt_lt.mp h
      rw [show (0 : Int32).toInt = 0 from rfl] at h3
      rw [hx]
      omega
    · rename_i h
      have h3 : ¬ x.toInt < (0 : Int32).toInt := fun q => h (Int32.lt_iff_toInt_lt.mpr q)
      rw [show (0 : Int32).toInt = 0 from rfl] at h3
      omega
  rw [key]
section STEPC
variable (g : GG) {A0 : Nat → Nat → Nat} {B : Nat} {σ : ST} {ar : Nat → Nat → Int32} {dm tg : Bool} {M : Mem}
theorem c_L_isAdded2 (hI : INV B σ) (hB : 2000000 ≤ B ∧ B < 2147483648) (hB9 : B ≤ 9000000) (hP : PI σ dm tg) (hR : LR σ ar dm tg) (hE : LE σ ar 1000) (h : WA g A0 σ ar M) {one two three : Nat} (h1 : one < 2 ^ 31) (h2 : two < 7000) (h3 : three < 2 ^ 31) : con g mL_isAdded 15 530 [.ref (A0 0 0), .ref (A0 20 0), .ref (A0 20 1), .ref (A0 20 2), .ref (A0 20 3), .int (nI 2), .int (nI one), .int (nI two), .int (nI three)] M (rQ (some (.int (nI 1))) (JA g A0 B)) := by
  refine con_i ?_ (by decide) rfl rfl (by simp [lv_args, Value.category]) (by simp [lv_args, lnd, Value.category])
  refine added_start g h2 ?_
  have hR2 := hR
  obtain ⟨g1, ⟨g2, g3, g4, g5, g6⟩, g7, g8, g9⟩ := hR2
  have h8 := hI.li.1
  have h10b := hI.wf.1.1
  generalize ctn two = cc
  have hz : ¬ nI (σ.ob + 1) = 0 := nI_ne0 (by omega) (by omega)
  have e1 : nI one - nI one / nI (σ.ob + 1) * nI (σ.ob + 1) = nI (one % (σ.ob + 1)) := pk_rem h1 (by omega) (by omega)
  have l1 : one % (σ.ob + 1) < σ.ob + 1 := Nat.mod_lt _ (by omega)
  generalize one % (σ.ob + 1) = o at e1 l1
  have hzf : ¬ nI (σ.fo + 1) = 0 := nI_ne0 (by omega) (by omega)
  have e2 : nI three - nI three / nI (σ.fo + 1) * nI (σ.fo + 1) = nI (three % (σ.fo + 1)) := pk_rem h3 (by omega) (by omega)
  have l2 : three % (σ.fo + 1) < σ.fo + 1 := Nat.mod_lt _ (by omega)
  generalize three % (σ.fo + 1) = f at e2 l2
  have eo' : tN (nI o) = o := nI_clamp (by omega)
  have ef' : tN (nI f) = f := nI_clamp (by omega)
  by_cases ho : o = σ.ob
  · have eo : o_convert σ (nI o) (nI 0) = (1, nI 0, σ) := by
      unfold o_convert
      rw [ho, inR_no (by omega) (by omega) (Nat.le_refl _), Bool.false_and, if_neg (by decide)]
    refine z_istore dL_isAdded_34 (by decide) ?_
    refine z_iload dL_isAdded_36 rfl ?_
    refine z_if_ne (tgt := 212) dL_isAdded_38 (by decide) (fun h38 => ?_) (fun h38 => absurd h38 (by decide))
    refine z_iload dL_isAdded_212 rfl ?_
    refine z_aload dL_isAdded_214 rfl rfl ?_
    refine z_ic ki_1 dL_isAdded_216 ?_
    refine z_iaload dL_isAdded_217 (WA_3 h) rfl (by decide) (by decide) ?_
    refine z_ic ki_1 dL_isAdded_218 ?_
    refine z_iadd dL_isAdded_219 ?_
    rw [g3, nI_add]
    refine z_irem dL_isAdded_220 hz ?_
    rw [e1]
    refine z_istore dL_isAdded_221 (by decide) ?_
    refine z_iload dL_isAdded_223 rfl ?_
    refine z_aload dL_isAdded_225 rfl rfl ?_
    refine z_ic ki_1 dL_isAdded_227 ?_
    refine z_iaload dL_isAdded_228 (WA_3 h) rfl (by decide) (by decide) ?_
    rw [g3]
    refine z_icmp_ne (tgt := 263) dL_isAdded_229 (by decide) (fun h229 => absurd h229 (fun q => q (by rw [ho]))) (fun h229 => ?_)
    refine z_aload_n dL_isAdded_232 rfl rfl ?_
    refine z_iload dL_isAdded_233 rfl ?_
    refine z_iload dL_isAdded_235 rfl ?_
    refine z_iload dL_isAdded_237 rfl ?_
    refine z_ic ki_1 dL_isAdded_239 ?_
    refine z_icmp_ne (tgt := 247) dL_isAdded_240 (by decide) (fun h240 => ?_) (fun h240 => absurd h240 (by decide))
    refine z_ic ki_0 dL_isAdded_247 ?_
    refine z_ic ki_0 dL_isAdded_248 ?_
    refine z_isXQ (dd := mL_versions) dL_isAdded_249 cw_RL_90 rfl ⟨by decide, by decide⟩ (n := 5) (by decide +kernel) (h_convert g hI hB h (nI o) (nI 0) (nI 0)) ⟨⟨by decide, by decide⟩, (by first | exact Nat.zero_le _ | decide | omega), (by first | exact Nat.zero_le _ | decide | omega)⟩ rfl rfl (Nat.le_of_ble_eq_true rfl) (fun M249 hQ249 => ?_)
    refine z_bi kb_m30 dL_isAdded_252 ?_
    refine z_icmp_ne (tgt := 261) dL_isAdded_254 (by decide) (fun h254 => absurd h254 (fun q => q (tl_1 (by rw [eo])))) (fun h254 => ?_)
    refine z_ic ki_1 dL_isAdded_257 ?_
    refine z_goto (tgt := 262) dL_isAdded_258 (by decide) ?_
    refine z_ireturn dL_isAdded_262 rfl (by first | rfl | exact bI_nar _) ?_
    exact rQ_of (JA_q (JQ_same hP hR hE (by rw [eo]) hQ249))
  · have hol : o < σ.ob := by omega
    obtain ⟨k1, k2, k3⟩ := g8 o hol
    have hn10 := hI.wf.2.1 o hol
    have hhv := hI.hv o hol
    obtain ⟨m1, m2, m3⟩ := hib_is (f := fun k => σ.b 0 (10 * o + k)) 10 hhv
    generalize hlh : hib (fun k => σ.b 0 (10 * o + k)) 10 = l at m1 m2 m3
    have m2 : σ.b 0 (10 * o + l) = true := m2
    have el : latn σ o 10 = 10 * o + l := latn_is m2 10 m1 m3
    have hcl : con g mL_latest 0 0 [.int (bset (fun k => σ.b 0 (10 * o + k)) 10)] M (rI (nI l) M) := by
      have k := c_L_latest g (M := M) (f := fun k => σ.b 0 (10 * o + k)) hhv
      rw [hlh] at k
      exact k
    have hvu := vok_of hI m2
    have hfu := hI.fm _ hvu
    have e386 : tl (o_read σ (nI o) (nI l)) (-100000030) (-100000010) (-100000010) = if allG σ (chL σ (10 * o + l)) = true then rdv σ (10 * o + l) else -100000010 := by
      rw [t_read, isV_n h10b hol m1, m2, if_pos rfl, eo', show tN (nI l) = l from nI_clamp (by omega)]
    rw [el] at k3
    generalize hn : σ.a 1 o = n at k1 hn10
    by_cases hf : f = σ.fo
    · have eo : o_convert σ (nI o) (nI f) = (1, nI 0, σ) := by
        unfold o_convert
        rw [hf, inR_no (n := σ.fo) (by omega) (by omega) (Nat.le_refl _), Bool.and_false, if_neg (by decide)]
      refine z_istore dL_isAdded_34 (by decide) ?_
      refine z_iload dL_isAdded_36 rfl ?_
      refine z_if_ne (tgt := 212) dL_isAdded_38 (by decide) (fun h38 => ?_) (fun h38 => absurd h38 (by decide))
      refine z_iload dL_isAdded_212 rfl ?_
      refine z_aload dL_isAdded_214 rfl rfl ?_
      refine z_ic ki_1 dL_isAdded_216 ?_
      refine z_iaload dL_isAdded_217 (WA_3 h) rfl (by decide) (by decide) ?_
      refine z_ic ki_1 dL_isAdded_218 ?_
      refine z_iadd dL_isAdded_219 ?_
      rw [g3, nI_add]
      refine z_irem dL_isAdded_220 hz ?_
      rw [e1]
      refine z_istore dL_isAdded_221 (by decide) ?_
      refine z_iload dL_isAdded_223 rfl ?_
      refine z_aload dL_isAdded_225 rfl rfl ?_
      refine z_ic ki_1 dL_isAdded_227 ?_
      refine z_iaload dL_isAdded_228 (WA_3 h) rfl (by decide) (by decide) ?_
      rw [g3]
      refine z_icmp_ne (tgt := 263) dL_isAdded_229 (by decide) (fun h229 => ?_) (fun h229 => absurd h229 (fun q => ho ((nI_eq (by omega) (by omega)).mp q)))
      refine z_iload dL_isAdded_263 rfl ?_
      refine z_ic ki_1 dL_isAdded_265 ?_
      refine z_icmp_ne (tgt := 361) dL_isAdded_266 (by decide) (fun h266 => ?_) (fun h266 => absurd h266 (by decide))
      refine z_iload dL_isAdded_361 rfl ?_
      refine z_aload dL_isAdded_363 rfl rfl ?_
      refine z_ic ki_0 dL_isAdded_365 ?_
      refine z_iaload dL_isAdded_366 (WA_3 h) rfl (by decide) (by decide) ?_
      refine z_ic ki_1 dL_isAdded_367 ?_
      refine z_iadd dL_isAdded_368 ?_
      rw [g2, nI_add]
      refine z_irem dL_isAdded_369 hzf ?_
      rw [e2]
      refine z_istore dL_isAdded_370 (by decide) ?_
      refine z_aload_n dL_isAdded_372 rfl rfl ?_
      refine z_iload dL_isAdded_373 rfl ?_
      refine z_iaload dL_isAdded_375 (WA_2 h) rfl (by omega) (by decide) ?_
      rw [k2]
      refine z_isI dL_isAdded_376 cs_RL_101 (hcl) ⟨⟨by decide, by decide⟩, (by first | exact Nat.zero_le _ | decide | omega), (by first | exact Nat.zero_le _ | decide | omega)⟩ rfl rfl (Nat.le_of_ble_eq_true rfl) ?_
      refine z_istore dL_isAdded_379 (by decide) ?_
      refine z_aload_n dL_isAdded_381 rfl rfl ?_
      refine z_iload dL_isAdded_382 rfl ?_
      refine z_iload dL_isAdded_384 rfl ?_
      refine z_isXQ (dd := mL_reads) dL_isAdded_386 cw_RL_92 rfl ⟨by decide, by decide⟩ (n := 3) (by decide +kernel) (h_read g hI h (nI o) (nI l)) ⟨⟨by decide, by decide⟩, (by first | exact Nat.zero_le _ | decide | omega), (by first | exact Nat.zero_le _ | decide | omega)⟩ rfl rfl (Nat.le_of_ble_eq_true rfl) (fun M386 hQ386 => ?_)
      refine z_istore dL_isAdded_389 (by decide) ?_
      refine z_iload dL_isAdded_391 rfl ?_
      refine z_aload dL_isAdded_393 rfl rfl ?_
      refine z_ic ki_0 dL_isAdded_395 ?_
      refine z_iaload dL_isAdded_396 (WA_3 hQ386) rfl (by decide) (by decide) ?_
      rw [g2]
      refine z_icmp_ge (tgt := 416) dL_isAdded_397 (by decide) (fun h397 => ?_) (fun h397 => absurd (nI_le (by omega) (by omega)) h397)
      refine z_ic ki_m1 dL_isAdded_416 ?_
      refine z_istore dL_isAdded_417 (by decide) ?_
      refine z_iload dL_isAdded_419 rfl ?_
      refine z_if_le (tgt := 444) dL_isAdded_421 (by decide) (fun h421 => ?_) (fun h421 => absurd (by decide) h421)
      refine z_ic ki_0 dL_isAdded_444 ?_
      refine z_istore dL_isAdded_445 (by decide) ?_
      refine z_iload dL_isAdded_447 rfl ?_
      refine z_aload dL_isAdded_449 rfl rfl ?_
      refine z_ic ki_0 dL_isAdded_451 ?_
      refine z_iaload dL_isAdded_452 (WA_3 hQ386) rfl (by decide) (by decide) ?_
      rw [g2]
      refine z_icmp_ne (tgt := 461) dL_isAdded_453 (by decide) (fun h453 => absurd h453 (fun q => q (by rw [hf]))) (fun h453 => ?_)
      refine z_bi kb_m30 dL_isAdded_456 ?_
      refine z_goto (tgt := 475) dL_isAdded_458 (by decide) ?_
      refine z_istore dL_isAdded_475 (by decide) ?_
      refine z_iload dL_isAdded_477 rfl ?_
      refine z_if_lt (tgt := 548) dL_isAdded_479 (by decide) (fun h479 => ?_) (fun h479 => absurd (by decide) h479)
      refine z_aload_n dL_isAdded_548 rfl rfl ?_
      refine z_ic ki_2 dL_isAdded_549 ?_
      refine z_iload dL_isAdded_550 rfl ?_
      refine z_iload dL_isAdded_552 rfl ?_
      refine z_ic ki_0 dL_isAdded_554 ?_
      refine z_isXQ (dd := mL_versions) dL_isAdded_555 cw_RL_90 rfl ⟨by decide, by decide⟩ (n := 5) (by decide +kernel) (h_convert g hI hB hQ386 (nI o) (nI f) (nI 0)) ⟨⟨by decide, by decide⟩, (by first | exact Nat.zero_le _ | decide | omega), (by first | exact Nat.zero_le _ | decide | omega)⟩ rfl rfl (Nat.le_of_ble_eq_true rfl) (fun M555 hQ555 => ?_)
      refine z_iload dL_isAdded_558 rfl ?_
      refine z_icmp_ne (tgt := 567) dL_isAdded_560 (by decide) (fun h560 => absurd h560 (fun q => q (tl_1 (by rw [eo])))) (fun h560 => ?_)
      refine z_ic ki_1 dL_isAdded_563 ?_
      refine z_goto (tgt := 568) dL_isAdded_564 (by decide) ?_
      refine z_ireturn dL_isAdded_568 rfl (by first | rfl | exact bI_nar _) ?_
      exact rQ_of (JA_q (JQ_same hP hR hE (by rw [eo]) hQ555))
    · have hfl : f < σ.fo := by omega
      have hin : (inR σ.ob (nI o) && inR σ.fo (nI f)) = true := by
        rw [inR_nI (by omega) hol, inR_nI (by omega) hfl]
        rfl
      have hw := way_is hI.li hfu hfl
      have hcvd : cvOk σ o f (10 * o + l) = (!decide (σ.a 2 (10 * o + l) = f) && (!decide (way σ (σ.a 2 (10 * o + l)) f = -1) && (allG σ (chL σ (10 * o + l)) && decide (n < 10)))) := by
        unfold cvOk
        rw [hn]
      by_cases hc : cvOk σ o f (10 * o + l) = true
      · have eo : o_convert σ (nI o) (nI f) = (0, nI n, adR σ o f (10 * o + l) false (cvC (rdv σ (10 * o + l)) (way σ (σ.a 2 (10 * o + l)) f))) := by
          unfold o_convert
          rw [if_pos hin, eo', ef', el, if_pos hc, hn]
        rw [hcvd, Bool.and_eq_true, Bool.and_eq_true, Bool.and_eq_true] at hc
        obtain ⟨c1, c2, c3, c4⟩ := hc
        have h10 : n < 10 := of_decide_eq_true c4
        have c1 : σ.a 2 (10 * o + l) ≠ f := by simpa using c1
        have c2 : way σ (σ.a 2 (10 * o + l)) f ≠ -1 := by simpa using c2
        obtain ⟨d, d1, d2, d3, d4⟩ := hw.resolve_left c2
        have w0 : ¬ way σ (σ.a 2 (10 * o + l)) f ≤ 0 := by
          rw [d1]
          exact nI_nle (d4 c1) (by omega)
        rw [if_pos c3] at e386
        have hbd : ¬ rdv σ (10 * o + l) ≤ -100000000 := fun q => by
          have q1 := Int32.le_iff_toInt_le.mp q
          have q2 := rd_bd hI hB9 hvu
          rw [show ((-100000000 : Int32)).toInt = -100000000 by decide] at q1
          omega
        generalize hC : cvC (rdv σ (10 * o + l)) (way σ (σ.a 2 (10 * o + l)) f) = C at eo
        have e322 : f2 ar 0 (10 * o + n) C 1 o = nI n := by rw [f2_a (by decide), k1]
        have e330 : f2 (f2 ar 0 (10 * o + n) C) 1 o (nI n + nI 1) 2 o = bset (fun k => σ.b 0 (10 * o + k)) 10 := by rw [f2_a (by decide), f2_a (by decide), k2]
        refine z_istore dL_isAdded_34 (by decide) ?_
        refine z_iload dL_isAdded_36 rfl ?_
        refine z_if_ne (tgt := 212) dL_isAdded_38 (by decide) (fun h38 => ?_) (fun h38 => absurd h38 (by decide))
        refine z_iload dL_isAdded_212 rfl ?_
        refine z_aload dL_isAdded_214 rfl rfl ?_
        refine z_ic ki_1 dL_isAdded_216 ?_
        refine z_iaload dL_isAdded_217 (WA_3 h) rfl (by decide) (by decide) ?_
        refine z_ic ki_1 dL_isAdded_218 ?_
        refine z_iadd dL_isAdded_219 ?_
        rw [g3, nI_add]
        refine z_irem dL_isAdded_220 hz ?_
        rw [e1]
        refine z_istore dL_isAdded_221 (by decide) ?_
        refine z_iload dL_isAdded_223 rfl ?_
        refine z_aload dL_isAdded_225 rfl rfl ?_
        refine z_ic ki_1 dL_isAdded_227 ?_
        refine z_iaload dL_isAdded_228 (WA_3 h) rfl (by decide) (by decide) ?_
        rw [g3]
        refine z_icmp_ne (tgt := 263) dL_isAdded_229 (by decide) (fun h229 => ?_) (fun h229 => absurd h229 (fun q => ho ((nI_eq (by omega) (by omega)).mp q)))
        refine z_iload dL_isAdded_263 rfl ?_
        refine z_ic ki_1 dL_isAdded_265 ?_
        refine z_icmp_ne (tgt := 361) dL_isAdded_266 (by decide) (fun h266 => ?_) (fun h266 => absurd h266 (by decide))
        refine z_iload dL_isAdded_361 rfl ?_
        refine z_aload dL_isAdded_363 rfl rfl ?_
        refine z_ic ki_0 dL_isAdded_365 ?_
        refine z_iaload dL_isAdded_366 (WA_3 h) rfl (by decide) (by decide) ?_
        refine z_ic ki_1 dL_isAdded_367 ?_
        refine z_iadd dL_isAdded_368 ?_
        rw [g2, nI_add]
        refine z_irem dL_isAdded_369 hzf ?_
        rw [e2]
        refine z_istore dL_isAdded_370 (by decide) ?_
        refine z_aload_n dL_isAdded_372 rfl rfl ?_
        refine z_iload dL_isAdded_373 rfl ?_
        refine z_iaload dL_isAdded_375 (WA_2 h) rfl (by omega) (by decide) ?_
        rw [k2]
        refine z_isI dL_isAdded_376 cs_RL_101 (hcl) ⟨⟨by decide, by decide⟩, (by first | exact Nat.zero_le _ | decide | omega), (by first | exact Nat.zero_le _ | decide | omega)⟩ rfl rfl (Nat.le_of_ble_eq_true rfl) ?_
        refine z_istore dL_isAdded_379 (by decide) ?_
        refine z_aload_n dL_isAdded_381 rfl rfl ?_
        refine z_iload dL_isAdded_382 rfl ?_
        refine z_iload dL_isAdded_384 rfl ?_
        refine z_isXQ (dd := mL_reads) dL_isAdded_386 cw_RL_92 rfl ⟨by decide, by decide⟩ (n := 3) (by decide +kernel) (h_read g hI h (nI o) (nI l)) ⟨⟨by decide, by decide⟩, (by first | exact Nat.zero_le _ | decide | omega), (by first | exact Nat.zero_le _ | decide | omega)⟩ rfl rfl (Nat.le_of_ble_eq_true rfl) (fun M386 hQ386 => ?_)
        rw [e386]
        refine z_istore dL_isAdded_389 (by decide) ?_
        refine z_iload dL_isAdded_391 rfl ?_
        refine z_aload dL_isAdded_393 rfl rfl ?_
        refine z_ic ki_0 dL_isAdded_395 ?_
        refine z_iaload dL_isAdded_396 (WA_3 hQ386) rfl (by decide) (by decide) ?_
        rw [g2]
        refine z_icmp_ge (tgt := 416) dL_isAdded_397 (by decide) (fun h397 => absurd h397 (nI_ge hfl (by omega))) (fun h397 => ?_)
        refine z_aload_n dL_isAdded_400 rfl rfl ?_
        refine z_aload_n dL_isAdded_401 rfl rfl ?_
        refine z_bi kb_6 dL_isAdded_402 ?_
        refine z_iload dL_isAdded_404 rfl ?_
        refine z_iadd dL_isAdded_406 ?_
        refine z_iaload dL_isAdded_407 (WA_2 hQ386) (nI_add 6 o) (by omega) (by decide) ?_
        rw [k3]
        refine z_iload dL_isAdded_408 rfl ?_
        refine z_ivW dL_isAdded_410 cv_RL_22 hQ386 (a_bestF g hI hQ386 hfu hfl) ⟨⟨by decide, by decide⟩, (by first | exact Nat.zero_le _ | decide | omega), (by first | exact Nat.zero_le _ | decide | omega)⟩ rfl rfl (Nat.le_of_ble_eq_true rfl) (fun M410 hQ410 => ?_)
        refine z_goto (tgt := 417) dL_isAdded_413 (by decide) ?_
        refine z_istore dL_isAdded_417 (by decide) ?_
        refine z_iload dL_isAdded_419 rfl ?_
        refine z_if_le (tgt := 444) dL_isAdded_421 (by decide) (fun h421 => absurd h421 w0) (fun h421 => ?_)
        refine z_iload dL_isAdded_424 rfl ?_
        refine z_ldc dL_isAdded_426 lc_RL_104 ?_
        refine z_icmp_le (tgt := 444) dL_isAdded_428 (by decide) (fun h428 => absurd h428 hbd) (fun h428 => ?_)
        refine z_aload_n dL_isAdded_431 rfl rfl ?_
        refine z_iload dL_isAdded_432 rfl ?_
        refine z_iaload dL_isAdded_434 (WA_1 hQ410) rfl (by omega) (by decide) ?_
        rw [k1]
        refine z_bi kb_10 dL_isAdded_435 ?_
        refine z_icmp_ge (tgt := 444) dL_isAdded_437 (by decide) (fun h437 => absurd h437 (nI_ge h10 (by decide))) (fun h437 => ?_)
        refine z_ic ki_1 dL_isAdded_440 ?_
        refine z_goto (tgt := 445) dL_isAdded_441 (by decide) ?_
        refine z_istore dL_isAdded_445 (by decide) ?_
        refine z_iload dL_isAdded_447 rfl ?_
        refine z_aload dL_isAdded_449 rfl rfl ?_
        refine z_ic ki_0 dL_isAdded_451 ?_
        refine z_iaload dL_isAdded_452 (WA_3 hQ410) rfl (by decide) (by decide) ?_
        rw [g2]
        refine z_icmp_ne (tgt := 461) dL_isAdded_453 (by decide) (fun h453 => ?_) (fun h453 => absurd h453 (fun q => hf ((nI_eq (by omega) (by omega)).mp q)))
        refine z_iload dL_isAdded_461 rfl ?_
        refine z_if_eq (tgt := 473) dL_isAdded_463 (by decide) (fun h463 => absurd h463 (by decide)) (fun h463 => ?_)
        refine z_aload_n dL_isAdded_466 rfl rfl ?_
        refine z_iload dL_isAdded_467 rfl ?_
        refine z_iaload dL_isAdded_469 (WA_1 hQ410) rfl (by omega) (by decide) ?_
        rw [k1]
        refine z_goto (tgt := 475) dL_isAdded_470 (by decide) ?_
        refine z_istore dL_isAdded_475 (by decide) ?_
        refine z_iload dL_isAdded_477 rfl ?_
        refine z_if_lt (tgt := 548) dL_isAdded_479 (by decide) (fun h479 => absurd h479 (nI_pos (by omega))) (fun h479 => ?_)
        refine z_aload_n dL_isAdded_482 rfl rfl ?_
        refine z_bi kb_10 dL_isAdded_483 ?_
        refine z_iload dL_isAdded_485 rfl ?_
        refine z_imul dL_isAdded_487 ?_
        refine z_iload dL_isAdded_488 rfl ?_
        refine z_iadd dL_isAdded_490 ?_
        refine z_si ks_1000 dL_isAdded_491 ?_
        refine z_iload dL_isAdded_494 rfl ?_
        refine z_si ks_1000 dL_isAdded_496 ?_
        refine z_irem dL_isAdded_499 (by decide) ?_
        refine z_si ks_1000 dL_isAdded_500 ?_
        refine z_iadd dL_isAdded_503 ?_
        refine z_si ks_1000 dL_isAdded_504 ?_
        refine z_irem dL_isAdded_507 (by decide) ?_
        refine z_imul dL_isAdded_508 ?_
        refine z_iload dL_isAdded_509 rfl ?_
        refine z_bi kb_100 dL_isAdded_511 ?_
        refine z_idiv dL_isAdded_513 (by decide) ?_
        refine z_si ks_1000 dL_isAdded_514 ?_
        refine z_irem dL_isAdded_517 (by decide) ?_
        refine z_iadd dL_isAdded_518 ?_
        rw [cv_law, hC]
        have w1 := WA_p0 hQ410 (10 * o + n) C
        have w2 := WA_p1 w1 o (nI n + nI 1)
        have w3 := WA_p2 w2 o (bset (fun k => σ.b 0 (10 * o + k)) 10 ||| (nI 1 <<< (nI n &&& 31)))
        have w4 := WA_p2 w3 (6 + o) (nI f)
        refine z_iastore dL_isAdded_519 (WA_0 hQ410) (ix10 o n) (by omega) (by decide) ?_
        refine z_aload_n dL_isAdded_520 rfl rfl ?_
        refine z_iload dL_isAdded_521 rfl ?_
        refine z_dup2 dL_isAdded_523 rfl rfl ?_
        refine z_iaload dL_isAdded_524 (WA_1 w1) rfl (by omega) (by decide) ?_
        rw [e322]
        refine z_ic ki_1 dL_isAdded_525 ?_
        refine z_iadd dL_isAdded_526 ?_
        refine z_iastore dL_isAdded_527 (WA_1 w1) rfl (by omega) (by decide) ?_
        refine z_aload_n dL_isAdded_528 rfl rfl ?_
        refine z_iload dL_isAdded_529 rfl ?_
        refine z_dup2 dL_isAdded_531 rfl rfl ?_
        refine z_iaload dL_isAdded_532 (WA_2 w2) rfl (by omega) (by decide) ?_
        rw [e330]
        refine z_ic ki_1 dL_isAdded_533 ?_
        refine z_iload dL_isAdded_534 rfl ?_
        refine z_ishl dL_isAdded_536 ?_
        refine z_ior dL_isAdded_537 ?_
        refine z_iastore dL_isAdded_538 (WA_2 w2) rfl (by omega) (by decide) ?_
        refine z_aload_n dL_isAdded_539 rfl rfl ?_
        refine z_bi kb_6 dL_isAdded_540 ?_
        refine z_iload dL_isAdded_542 rfl ?_
        refine z_iadd dL_isAdded_544 ?_
        refine z_iload dL_isAdded_545 rfl ?_
        refine z_iastore dL_isAdded_547 (WA_2 w3) (nI_add 6 o) (by omega) (by decide) ?_
        refine z_aload_n dL_isAdded_548 rfl rfl ?_
        refine z_ic ki_2 dL_isAdded_549 ?_
        refine z_iload dL_isAdded_550 rfl ?_
        refine z_iload dL_isAdded_552 rfl ?_
        refine z_ic ki_0 dL_isAdded_554 ?_
        refine z_isXQ (dd := mL_versions) dL_isAdded_555 cw_RL_90 rfl ⟨by decide, by decide⟩ (n := 5) (by decide +kernel) (h_convert g hI hB w4 (nI o) (nI f) (nI 0)) ⟨⟨by decide, by decide⟩, (by first | exact Nat.zero_le _ | decide | omega), (by first | exact Nat.zero_le _ | decide | omega)⟩ rfl rfl (Nat.le_of_ble_eq_true rfl) (fun M555 hQ555 => ?_)
        refine z_iload dL_isAdded_558 rfl ?_
        refine z_icmp_ne (tgt := 567) dL_isAdded_560 (by decide) (fun h560 => absurd h560 (fun q => q (by rw [tl_0 (by rw [eo]), eo]))) (fun h560 => ?_)
        refine z_ic ki_1 dL_isAdded_563 ?_
        refine z_goto (tgt := 568) dL_isAdded_564 (by decide) ?_
        refine z_ireturn dL_isAdded_568 rfl (by first | rfl | exact bI_nar _) ?_
        obtain ⟨τ, i1, s1, w6⟩ := hQ555
        rw [eo] at s1
        obtain ⟨hV, c5, c6, c7⟩ := vc_adR hI i1 hn h10 s1 (fun z => by cases z)
        rw [if_neg (by decide)] at c6
        have ha0 := hP.2.1 o hol
        have hP' := PI_sim (PI_adR hP (fun s => (hI.gh.1 σ.un s (Nat.le_refl _)).1) ha0.1 ha0.2 f (10 * o + l) false C) s1
        refine rQ_of ⟨τ, _, dm, tg, 10 * o + n, i1, hP', LR_new hI hR hn h10 hV ⟨c5, c6⟩ (Or.inl ⟨c7, hol⟩) (by omega) ⟨?_, ?_, ?_, ?_, ?_⟩ (fun f' hf' => ?_) (fun j hj hne => ⟨?_, ?_, ?_⟩) ⟨?_, ?_, ?_⟩ ⟨fun w hw => ?_, ?_⟩, LE_new hI hE hV (fun w => ?_), Or.inr ⟨o, n, by omega, by rw [hV.2.2.2, if_pos rfl], rfl⟩, w6⟩
        · rw [f2_a (by decide), f2_a (by decide), f2_a (by decide), f2_a (by decide)]
        · rw [f2_a (by decide), f2_a (by decide), f2_a (by decide), f2_a (by decide), g3, c7]
        · rw [f2_a (by decide), f2_a (by decide), f2_a (by decide), f2_a (by decide)]
        · rw [f2_a (by decide), f2_a (by decide), f2_a (by decide), f2_a (by decide)]
        · rw [f2_a (by decide), f2_a (by decide), f2_a (by decide), f2_a (by decide)]
        · rw [f2_a (by decide), f2_a (by decide), f2_n (fun z => by have := z.2; omega), f2_a (by decide)]
        · rw [f2_a (by decide), f2_a (by decide), f2_n (fun z => hne z.2), f2_a (by decide)]
        · rw [f2_n (fun z => by have := z.2; omega), f2_n (fun z => hne z.2), f2_a (by decide), f2_a (by decide)]
        · rw [f2_n (fun z => by have := z.2; omega), f2_n (fun z => by have := z.2; omega), f2_a (by decide), f2_a (by decide)]
        · rw [f2_a (by decide), f2_a (by decide), f2_s]
          exact nI_add n 1
        · rw [f2_n (fun z => by have := z.2; omega), f2_s, bset_on _ h10]
        · rw [f2_s]
        · rw [f2_a (by decide), f2_a (by decide), f2_a (by decide), f2_n (fun z => hw z.2)]
        · rw [f2_a (by decide), f2_a (by decide), f2_a (by decide), f2_s]
        · rw [f2_a (by decide), f2_a (by decide), f2_a (by decide), f2_a (by decide)]
      · have eo : o_convert σ (nI o) (nI f) = (2, nI 0, σ) := by
          unfold o_convert
          rw [if_pos hin, eo', ef', el, if_neg hc]
        have hno : ¬ way σ (σ.a 2 (10 * o + l)) f ≤ 0 → ¬ (if allG σ (chL σ (10 * o + l)) = true then rdv σ (10 * o + l) else -100000010) ≤ -100000000 → ¬ nI 10 ≤ nI n → cvOk σ o f (10 * o + l) = true := fun q1 q2 q3 => by
          have z1 : ¬ σ.a 2 (10 * o + l) = f := fun z => q1 (by rw [z, way_aa hI.li (by omega)]; decide)
          have z2 : ¬ way σ (σ.a 2 (10 * o + l)) f = -1 := fun z => q1 (by rw [z]; decide)
          have z3 : allG σ (chL σ (10 * o + l)) = true := Classical.byContradiction fun z => q2 (by rw [if_neg z]; decide)
          have z4 : n < 10 := Classical.byContradiction fun z => q3 (nI_le (by omega) (by omega))
          rw [hcvd, decide_eq_false z1, decide_eq_false z2, z3, decide_eq_true z4]
          rfl
        refine z_istore dL_isAdded_34 (by decide) ?_
        refine z_iload dL_isAdded_36 rfl ?_
        refine z_if_ne (tgt := 212) dL_isAdded_38 (by decide) (fun h38 => ?_) (fun h38 => absurd h38 (by decide))
        refine z_iload dL_isAdded_212 rfl ?_
        refine z_aload dL_isAdded_214 rfl rfl ?_
        refine z_ic ki_1 dL_isAdded_216 ?_
        refine z_iaload dL_isAdded_217 (WA_3 h) rfl (by decide) (by decide) ?_
        refine z_ic ki_1 dL_isAdded_218 ?_
        refine z_iadd dL_isAdded_219 ?_
        rw [g3, nI_add]
        refine z_irem dL_isAdded_220 hz ?_
        rw [e1]
        refine z_istore dL_isAdded_221 (by decide) ?_
        refine z_iload dL_isAdded_223 rfl ?_
        refine z_aload dL_isAdded_225 rfl rfl ?_
        refine z_ic ki_1 dL_isAdded_227 ?_
        refine z_iaload dL_isAdded_228 (WA_3 h) rfl (by decide) (by decide) ?_
        rw [g3]
        refine z_icmp_ne (tgt := 263) dL_isAdded_229 (by decide) (fun h229 => ?_) (fun h229 => absurd h229 (fun q => ho ((nI_eq (by omega) (by omega)).mp q)))
        refine z_iload dL_isAdded_263 rfl ?_
        refine z_ic ki_1 dL_isAdded_265 ?_
        refine z_icmp_ne (tgt := 361) dL_isAdded_266 (by decide) (fun h266 => ?_) (fun h266 => absurd h266 (by decide))
        refine z_iload dL_isAdded_361 rfl ?_
        refine z_aload dL_isAdded_363 rfl rfl ?_
        refine z_ic ki_0 dL_isAdded_365 ?_
        refine z_iaload dL_isAdded_366 (WA_3 h) rfl (by decide) (by decide) ?_
        refine z_ic ki_1 dL_isAdded_367 ?_
        refine z_iadd dL_isAdded_368 ?_
        rw [g2, nI_add]
        refine z_irem dL_isAdded_369 hzf ?_
        rw [e2]
        refine z_istore dL_isAdded_370 (by decide) ?_
        refine z_aload_n dL_isAdded_372 rfl rfl ?_
        refine z_iload dL_isAdded_373 rfl ?_
        refine z_iaload dL_isAdded_375 (WA_2 h) rfl (by omega) (by decide) ?_
        rw [k2]
        refine z_isI dL_isAdded_376 cs_RL_101 (hcl) ⟨⟨by decide, by decide⟩, (by first | exact Nat.zero_le _ | decide | omega), (by first | exact Nat.zero_le _ | decide | omega)⟩ rfl rfl (Nat.le_of_ble_eq_true rfl) ?_
        refine z_istore dL_isAdded_379 (by decide) ?_
        refine z_aload_n dL_isAdded_381 rfl rfl ?_
        refine z_iload dL_isAdded_382 rfl ?_
        refine z_iload dL_isAdded_384 rfl ?_
        refine z_isXQ (dd := mL_reads) dL_isAdded_386 cw_RL_92 rfl ⟨by decide, by decide⟩ (n := 3) (by decide +kernel) (h_read g hI h (nI o) (nI l)) ⟨⟨by decide, by decide⟩, (by first | exact Nat.zero_le _ | decide | omega), (by first | exact Nat.zero_le _ | decide | omega)⟩ rfl rfl (Nat.le_of_ble_eq_true rfl) (fun M386 hQ386 => ?_)
        rw [e386]
        refine z_istore dL_isAdded_389 (by decide) ?_
        refine z_iload dL_isAdded_391 rfl ?_
        refine z_aload dL_isAdded_393 rfl rfl ?_
        refine z_ic ki_0 dL_isAdded_395 ?_
        refine z_iaload dL_isAdded_396 (WA_3 hQ386) rfl (by decide) (by decide) ?_
        rw [g2]
        refine z_icmp_ge (tgt := 416) dL_isAdded_397 (by decide) (fun h397 => absurd h397 (nI_ge hfl (by omega))) (fun h397 => ?_)
        refine z_aload_n dL_isAdded_400 rfl rfl ?_
        refine z_aload_n dL_isAdded_401 rfl rfl ?_
        refine z_bi kb_6 dL_isAdded_402 ?_
        refine z_iload dL_isAdded_404 rfl ?_
        refine z_iadd dL_isAdded_406 ?_
        refine z_iaload dL_isAdded_407 (WA_2 hQ386) (nI_add 6 o) (by omega) (by decide) ?_
        rw [k3]
        refine z_iload dL_isAdded_408 rfl ?_
        refine z_ivW dL_isAdded_410 cv_RL_22 hQ386 (a_bestF g hI hQ386 hfu hfl) ⟨⟨by decide, by decide⟩, (by first | exact Nat.zero_le _ | decide | omega), (by first | exact Nat.zero_le _ | decide | omega)⟩ rfl rfl (Nat.le_of_ble_eq_true rfl) (fun M410 hQ410 => ?_)
        refine z_goto (tgt := 417) dL_isAdded_413 (by decide) ?_
        refine z_istore dL_isAdded_417 (by decide) ?_
        refine z_iload dL_isAdded_419 rfl ?_
        refine z_if_le (tgt := 444) dL_isAdded_421 (by decide) (fun h421 => ?_) (fun h421 => ?_)
        · refine z_ic ki_0 dL_isAdded_444 ?_
          refine z_istore dL_isAdded_445 (by decide) ?_
          refine z_iload dL_isAdded_447 rfl ?_
          refine z_aload dL_isAdded_449 rfl rfl ?_
          refine z_ic ki_0 dL_isAdded_451 ?_
          refine z_iaload dL_isAdded_452 (WA_3 hQ410) rfl (by decide) (by decide) ?_
          rw [g2]
          refine z_icmp_ne (tgt := 461) dL_isAdded_453 (by decide) (fun h453 => ?_) (fun h453 => absurd h453 (fun q => hf ((nI_eq (by omega) (by omega)).mp q)))
          refine z_iload dL_isAdded_461 rfl ?_
          refine z_if_eq (tgt := 473) dL_isAdded_463 (by decide) (fun h463 => ?_) (fun h463 => absurd (by decide) h463)
          refine z_bi kb_m10 dL_isAdded_473 ?_
          refine z_istore dL_isAdded_475 (by decide) ?_
          refine z_iload dL_isAdded_477 rfl ?_
          refine z_if_lt (tgt := 548) dL_isAdded_479 (by decide) (fun h479 => ?_) (fun h479 => absurd (by decide) h479)
          refine z_aload_n dL_isAdded_548 rfl rfl ?_
          refine z_ic ki_2 dL_isAdded_549 ?_
          refine z_iload dL_isAdded_550 rfl ?_
          refine z_iload dL_isAdded_552 rfl ?_
          refine z_ic ki_0 dL_isAdded_554 ?_
          refine z_isXQ (dd := mL_versions) dL_isAdded_555 cw_RL_90 rfl ⟨by decide, by decide⟩ (n := 5) (by decide +kernel) (h_convert g hI hB hQ410 (nI o) (nI f) (nI 0)) ⟨⟨by decide, by decide⟩, (by first | exact Nat.zero_le _ | decide | omega), (by first | exact Nat.zero_le _ | decide | omega)⟩ rfl rfl (Nat.le_of_ble_eq_true rfl) (fun M555 hQ555 => ?_)
          refine z_iload dL_isAdded_558 rfl ?_
          refine z_icmp_ne (tgt := 567) dL_isAdded_560 (by decide) (fun h560 => absurd h560 (fun q => q (tl_2 (by rw [eo])))) (fun h560 => ?_)
          refine z_ic ki_1 dL_isAdded_563 ?_
          refine z_goto (tgt := 568) dL_isAdded_564 (by decide) ?_
          refine z_ireturn dL_isAdded_568 rfl (by first | rfl | exact bI_nar _) ?_
          exact rQ_of (JA_q (JQ_same hP hR hE (by rw [eo]) hQ555))
        · refine z_iload dL_isAdded_424 rfl ?_
          refine z_ldc dL_isAdded_426 lc_RL_104 ?_
          refine z_icmp_le (tgt := 444) dL_isAdded_428 (by decide) (fun h428 => ?_) (fun h428 => ?_)
          · refine z_ic ki_0 dL_isAdded_444 ?_
            refine z_istore dL_isAdded_445 (by decide) ?_
            refine z_iload dL_isAdded_447 rfl ?_
            refine z_aload dL_isAdded_449 rfl rfl ?_
            refine z_ic ki_0 dL_isAdded_451 ?_
            refine z_iaload dL_isAdded_452 (WA_3 hQ410) rfl (by decide) (by decide) ?_
            rw [g2]
            refine z_icmp_ne (tgt := 461) dL_isAdded_453 (by decide) (fun h453 => ?_) (fun h453 => absurd h453 (fun q => hf ((nI_eq (by omega) (by omega)).mp q)))
            refine z_iload dL_isAdded_461 rfl ?_
            refine z_if_eq (tgt := 473) dL_isAdded_463 (by decide) (fun h463 => ?_) (fun h463 => absurd (by decide) h463)
            refine z_bi kb_m10 dL_isAdded_473 ?_
            refine z_istore dL_isAdded_475 (by decide) ?_
            refine z_iload dL_isAdded_477 rfl ?_
            refine z_if_lt (tgt := 548) dL_isAdded_479 (by decide) (fun h479 => ?_) (fun h479 => absurd (by decide) h479)
            refine z_aload_n dL_isAdded_548 rfl rfl ?_
            refine z_ic ki_2 dL_isAdded_549 ?_
            refine z_iload dL_isAdded_550 rfl ?_
            refine z_iload dL_isAdded_552 rfl ?_
            refine z_ic ki_0 dL_isAdded_554 ?_
            refine z_isXQ (dd := mL_versions) dL_isAdded_555 cw_RL_90 rfl ⟨by decide, by decide⟩ (n := 5) (by decide +kernel) (h_convert g hI hB hQ410 (nI o) (nI f) (nI 0)) ⟨⟨by decide, by decide⟩, (by first | exact Nat.zero_le _ | decide | omega), (by first | exact Nat.zero_le _ | decide | omega)⟩ rfl rfl (Nat.le_of_ble_eq_true rfl) (fun M555 hQ555 => ?_)
            refine z_iload dL_isAdded_558 rfl ?_
            refine z_icmp_ne (tgt := 567) dL_isAdded_560 (by decide) (fun h560 => absurd h560 (fun q => q (tl_2 (by rw [eo])))) (fun h560 => ?_)
            refine z_ic ki_1 dL_isAdded_563 ?_
            refine z_goto (tgt := 568) dL_isAdded_564 (by decide) ?_
            refine z_ireturn dL_isAdded_568 rfl (by first | rfl | exact bI_nar _) ?_
            exact rQ_of (JA_q (JQ_same hP hR hE (by rw [eo]) hQ555))
          · refine z_aload_n dL_isAdded_431 rfl rfl ?_
            refine z_iload dL_isAdded_432 rfl ?_
            refine z_iaload dL_isAdded_434 (WA_1 hQ410) rfl (by omega) (by decide) ?_
            rw [k1]
            refine z_bi kb_10 dL_isAdded_435 ?_
            refine z_icmp_ge (tgt := 444) dL_isAdded_437 (by decide) (fun h437 => ?_) (fun h437 => ?_)
            · refine z_ic ki_0 dL_isAdded_444 ?_
              refine z_istore dL_isAdded_445 (by decide) ?_
              refine z_iload dL_isAdded_447 rfl ?_
              refine z_aload dL_isAdded_449 rfl rfl ?_
              refine z_ic ki_0 dL_isAdded_451 ?_
              refine z_iaload dL_isAdded_452 (WA_3 hQ410) rfl (by decide) (by decide) ?_
              rw [g2]
              refine z_icmp_ne (tgt := 461) dL_isAdded_453 (by decide) (fun h453 => ?_) (fun h453 => absurd h453 (fun q => hf ((nI_eq (by omega) (by omega)).mp q)))
              refine z_iload dL_isAdded_461 rfl ?_
              refine z_if_eq (tgt := 473) dL_isAdded_463 (by decide) (fun h463 => ?_) (fun h463 => absurd (by decide) h463)
              refine z_bi kb_m10 dL_isAdded_473 ?_
              refine z_istore dL_isAdded_475 (by decide) ?_
              refine z_iload dL_isAdded_477 rfl ?_
              refine z_if_lt (tgt := 548) dL_isAdded_479 (by decide) (fun h479 => ?_) (fun h479 => absurd (by decide) h479)
              refine z_aload_n dL_isAdded_548 rfl rfl ?_
              refine z_ic ki_2 dL_isAdded_549 ?_
              refine z_iload dL_isAdded_550 rfl ?_
              refine z_iload dL_isAdded_552 rfl ?_
              refine z_ic ki_0 dL_isAdded_554 ?_
              refine z_isXQ (dd := mL_versions) dL_isAdded_555 cw_RL_90 rfl ⟨by decide, by decide⟩ (n := 5) (by decide +kernel) (h_convert g hI hB hQ410 (nI o) (nI f) (nI 0)) ⟨⟨by decide, by decide⟩, (by first | exact Nat.zero_le _ | decide | omega), (by first | exact Nat.zero_le _ | decide | omega)⟩ rfl rfl (Nat.le_of_ble_eq_true rfl) (fun M555 hQ555 => ?_)
              refine z_iload dL_isAdded_558 rfl ?_
              refine z_icmp_ne (tgt := 567) dL_isAdded_560 (by decide) (fun h560 => absurd h560 (fun q => q (tl_2 (by rw [eo])))) (fun h560 => ?_)
              refine z_ic ki_1 dL_isAdded_563 ?_
              refine z_goto (tgt := 568) dL_isAdded_564 (by decide) ?_
              refine z_ireturn dL_isAdded_568 rfl (by first | rfl | exact bI_nar _) ?_
              exact rQ_of (JA_q (JQ_same hP hR hE (by rw [eo]) hQ555))
            · exact absurd (hno h421 h428 h437) hc
end STEPC
