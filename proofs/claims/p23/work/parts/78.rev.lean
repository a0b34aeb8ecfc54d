/-! the law's steps: a version is added -/
section STEPR
variable (g : GG) {A0 : Nat → Nat → Nat} {B : Nat} {σ : ST} {ar : Nat → Nat → Int32} {dm tg : Bool} {M : Mem}
theorem rvV_c (σ : ST) (u : Nat) (c : Int32) (d : Bool) : (if d = true then rvV σ u c d + cont σ u else rvV σ u c d) = c := by
  unfold rvV
  cases d with
  | false => rfl
  | true =>
    rw [if_pos rfl, if_pos rfl]
    exact Int32.sub_add_cancel c (cont σ u)
theorem c_L_isAdded1 (hI : INV B σ) (hB : 2000000 ≤ B ∧ B < 2147483648) (hP : PI σ dm tg) (hR : LR σ ar dm tg) (hE : LE σ ar 1000) (h : WA g A0 σ ar M) {one two three : Nat} (h1 : one < 2 ^ 31) (h2 : two < 7000) (h3 : three < 2 ^ 31) : con g mL_isAdded 15 530 [.ref (A0 0 0), .ref (A0 20 0), .ref (A0 20 1), .ref (A0 20 2), .ref (A0 20 3), .int (nI 1), .int (nI one), .int (nI two), .int (nI three)] M (rQ (some (.int (nI 1))) (JA g A0 B)) := by
  refine con_i ?_ (by decide) rfl rfl (by simp [lv_args, Value.category]) (by simp [lv_args, lnd, Value.category])
  refine added_start g h2 ?_
  have hR2 := hR
  obtain ⟨g1, ⟨g2, g3, g4, g5, g6⟩, g7, g8, g9⟩ := hR2
  have h8 := hI.li.1
  have hcc := ctn_lt h2
  generalize ctn two = cc at hcc
  have hz : ¬ nI (σ.ob + 1) = 0 := nI_ne0 (by omega) (by omega)
  have e1 : nI one - nI one / nI (σ.ob + 1) * nI (σ.ob + 1) = nI (one % (σ.ob + 1)) := pk_rem h1 (by omega) (by omega)
  have l1 : one % (σ.ob + 1) < σ.ob + 1 := Nat.mod_lt _ (by omega)
  generalize one % (σ.ob + 1) = o at e1 l1
  have e2 : nI three - nI three / nI 2 * nI 2 = nI (three % 2) := pk_rem h3 (by decide) (by decide)
  generalize three % 2 = m at e2
  have eo' : tN (nI o) = o := nI_clamp (by omega)
  by_cases ho : o = σ.ob
  · have eo : o_revise σ (nI o) (nI 1) (decide (nI 0 = nI 1)) = (2, nI 0, σ) := by
      unfold o_revise
      rw [if_pos (by decide), ho, inR_no (by omega) (by omega) (Nat.le_refl _), if_neg (by decide)]
    refine z_istore dL_isAdded_34 (by decide) ?_
    refine z_iload dL_isAdded_36 rfl ?_
    refine z_if_ne (tgt := 212) dL_isAdded_38 (by decide) (fun h38 => ?_) (fun h38 => absurd h38 (by decide))
    refine z_iload dL_isAdded_212 rfl ?_
    refine z_aload dL_isAdded_214 rfl rfl ?_
    refine z_ic ki_1 dL_isAdded_216 ?_
    refine z_iaload dL_isAdded_217 (WA_3 h) rfl (by decide) (by decide) ?_
    refine z_ic ki_1 dL_isAdded_218 ?_
    refine z_iadd dL_isAdded_219 ?_
    rw [g3, nI_add]
    refine z_irem dL_isAdded_220 hz ?_
    rw [e1]
    refine z_istore dL_isAdded_221 (by decide) ?_
    refine z_iload dL_isAdded_223 rfl ?_
    refine z_aload dL_isAdded_225 rfl rfl ?_
    refine z_ic ki_1 dL_isAdded_227 ?_
    refine z_iaload dL_isAdded_228 (WA_3 h) rfl (by decide) (by decide) ?_
    rw [g3]
    refine z_icmp_ne (tgt := 263) dL_isAdded_229 (by decide) (fun h229 => absurd h229 (fun q => q (by rw [ho]))) (fun h229 => ?_)
    refine z_aload_n dL_isAdded_232 rfl rfl ?_
    refine z_iload dL_isAdded_233 rfl ?_
    refine z_iload dL_isAdded_235 rfl ?_
    refine z_iload dL_isAdded_237 rfl ?_
    refine z_ic ki_1 dL_isAdded_239 ?_
    refine z_icmp_ne (tgt := 247) dL_isAdded_240 (by decide) (fun h240 => absurd h240 (fun q => q rfl)) (fun h240 => ?_)
    refine z_ic ki_1 dL_isAdded_243 ?_
    refine z_goto (tgt := 248) dL_isAdded_244 (by decide) ?_
    refine z_ic ki_0 dL_isAdded_248 ?_
    refine z_isXQ (dd := mL_versions) dL_isAdded_249 cw_RL_90 rfl ⟨by decide, by decide⟩ (n := 5) (by decide +kernel) (h_revise g hI hB h (nI o) (nI 1) (nI 0)) ⟨⟨by decide, by decide⟩, (by first | exact Nat.zero_le _ | decide | omega), (by first | exact Nat.zero_le _ | decide | omega)⟩ rfl rfl (Nat.le_of_ble_eq_true rfl) (fun M249 hQ249 => ?_)
    refine z_bi kb_m30 dL_isAdded_252 ?_
    refine z_icmp_ne (tgt := 261) dL_isAdded_254 (by decide) (fun h254 => absurd h254 (fun q => q (tl_2 (by rw [eo])))) (fun h254 => ?_)
    refine z_ic ki_1 dL_isAdded_257 ?_
    refine z_goto (tgt := 262) dL_isAdded_258 (by decide) ?_
    refine z_ireturn dL_isAdded_262 rfl (by first | rfl | exact bI_nar _) ?_
    exact rQ_of (JA_q (JQ_same hP hR hE (by rw [eo]) hQ249))
  · have hol : o < σ.ob := by omega
    obtain ⟨k1, k2, k3⟩ := g8 o hol
    have hn10 := hI.wf.2.1 o hol
    generalize hn : σ.a 1 o = n at k1 hn10
    by_cases q1 : cc ≤ 999999
    · by_cases q2 : n = 10
      · have eo : o_revise σ (nI o) (nI cc) (decide (nI m = nI 1)) = (3, nI 0, σ) := by
          unfold o_revise
          rw [if_pos (inC_n q1), inR_nI (by omega) hol, if_pos rfl, eo', hn, if_pos q2]
        refine z_istore dL_isAdded_34 (by decide) ?_
        refine z_iload dL_isAdded_36 rfl ?_
        refine z_if_ne (tgt := 212) dL_isAdded_38 (by decide) (fun h38 => ?_) (fun h38 => absurd h38 (by decide))
        refine z_iload dL_isAdded_212 rfl ?_
        refine z_aload dL_isAdded_214 rfl rfl ?_
        refine z_ic ki_1 dL_isAdded_216 ?_
        refine z_iaload dL_isAdded_217 (WA_3 h) rfl (by decide) (by decide) ?_
        refine z_ic ki_1 dL_isAdded_218 ?_
        refine z_iadd dL_isAdded_219 ?_
        rw [g3, nI_add]
        refine z_irem dL_isAdded_220 hz ?_
        rw [e1]
        refine z_istore dL_isAdded_221 (by decide) ?_
        refine z_iload dL_isAdded_223 rfl ?_
        refine z_aload dL_isAdded_225 rfl rfl ?_
        refine z_ic ki_1 dL_isAdded_227 ?_
        refine z_iaload dL_isAdded_228 (WA_3 h) rfl (by decide) (by decide) ?_
        rw [g3]
        refine z_icmp_ne (tgt := 263) dL_isAdded_229 (by decide) (fun h229 => ?_) (fun h229 => absurd h229 (fun q => ho ((nI_eq (by omega) (by omega)).mp q)))
        refine z_iload dL_isAdded_263 rfl ?_
        refine z_ic ki_1 dL_isAdded_265 ?_
        refine z_icmp_ne (tgt := 361) dL_isAdded_266 (by decide) (fun h266 => absurd h266 (fun q => q rfl)) (fun h266 => ?_)
        refine z_iload dL_isAdded_269 rfl ?_
        refine z_ldc dL_isAdded_271 lc_RL_100 ?_
        rw [c_999]
        refine z_icmp_le (tgt := 281) dL_isAdded_273 (by decide) (fun h273 => ?_) (fun h273 => absurd (nI_le q1 (by decide)) h273)
        refine z_aload_n dL_isAdded_281 rfl rfl ?_
        refine z_iload dL_isAdded_282 rfl ?_
        refine z_iaload dL_isAdded_284 (WA_1 h) rfl (by omega) (by decide) ?_
        rw [k1]
        refine z_bi kb_10 dL_isAdded_285 ?_
        refine z_icmp_ne (tgt := 295) dL_isAdded_287 (by decide) (fun h287 => absurd h287 (fun q => q (by rw [q2]))) (fun h287 => ?_)
        refine z_bi kb_m10 dL_isAdded_290 ?_
        refine z_goto (tgt := 299) dL_isAdded_292 (by decide) ?_
        refine z_istore dL_isAdded_299 (by decide) ?_
        refine z_iload dL_isAdded_301 rfl ?_
        refine z_if_lt (tgt := 337) dL_isAdded_303 (by decide) (fun h303 => ?_) (fun h303 => absurd (by decide) h303)
        refine z_aload_n dL_isAdded_337 rfl rfl ?_
        refine z_ic ki_1 dL_isAdded_338 ?_
        refine z_iload dL_isAdded_339 rfl ?_
        refine z_iload dL_isAdded_341 rfl ?_
        refine z_iload dL_isAdded_343 rfl ?_
        refine z_ic ki_2 dL_isAdded_345 ?_
        refine z_irem dL_isAdded_346 (by decide) ?_
        rw [e2]
        refine z_isXQ (dd := mL_versions) dL_isAdded_347 cw_RL_90 rfl ⟨by decide, by decide⟩ (n := 5) (by decide +kernel) (h_revise g hI hB h (nI o) (nI cc) (nI m)) ⟨⟨by decide, by decide⟩, (by first | exact Nat.zero_le _ | decide | omega), (by first | exact Nat.zero_le _ | decide | omega)⟩ rfl rfl (Nat.le_of_ble_eq_true rfl) (fun M347 hQ347 => ?_)
        refine z_iload dL_isAdded_350 rfl ?_
        refine z_icmp_ne (tgt := 359) dL_isAdded_352 (by decide) (fun h352 => absurd h352 (fun q => q (tl_3 (by rw [eo])))) (fun h352 => ?_)
        refine z_ic ki_1 dL_isAdded_355 ?_
        refine z_goto (tgt := 360) dL_isAdded_356 (by decide) ?_
        refine z_ireturn dL_isAdded_360 rfl (by first | rfl | exact bI_nar _) ?_
        exact rQ_of (JA_q (JQ_same hP hR hE (by rw [eo]) hQ347))
      · have h10 : n < 10 := by omega
        generalize hd : decide (nI m = nI 1) = d
        have eo : o_revise σ (nI o) (nI cc) d = (0, nI n, adR σ o (σ.a 2 (latn σ o 10)) (latn σ o 10) d (rvV σ (latn σ o 10) (nI cc) d)) := by
          unfold o_revise
          rw [if_pos (inC_n q1), inR_nI (by omega) hol, if_pos rfl, eo', hn, if_neg q2]
        have w1 := WA_p0 h (10 * o + n) (nI cc)
        have e322 : f2 ar 0 (10 * o + n) (nI cc) 1 o = nI n := by rw [f2_a (by decide), k1]
        have w2 := WA_p1 w1 o (nI n + nI 1)
        have e330 : f2 (f2 ar 0 (10 * o + n) (nI cc)) 1 o (nI n + nI 1) 2 o = bset (fun k => σ.b 0 (10 * o + k)) 10 := by rw [f2_a (by decide), f2_a (by decide), k2]
        have w3 := WA_p2 w2 o (bset (fun k => σ.b 0 (10 * o + k)) 10 ||| (nI 1 <<< (nI n &&& 31)))
        have hk := h_revise g hI hB w3 (nI o) (nI cc) (nI m)
        rw [hd] at hk
        refine z_istore dL_isAdded_34 (by decide) ?_
        refine z_iload dL_isAdded_36 rfl ?_
        refine z_if_ne (tgt := 212) dL_isAdded_38 (by decide) (fun h38 => ?_) (fun h38 => absurd h38 (by decide))
        refine z_iload dL_isAdded_212 rfl ?_
        refine z_aload dL_isAdded_214 rfl rfl ?_
        refine z_ic ki_1 dL_isAdded_216 ?_
        refine z_iaload dL_isAdded_217 (WA_3 h) rfl (by decide) (by decide) ?_
        refine z_ic ki_1 dL_isAdded_218 ?_
        refine z_iadd dL_isAdded_219 ?_
        rw [g3, nI_add]
        refine z_irem dL_isAdded_220 hz ?_
        rw [e1]
        refine z_istore dL_isAdded_221 (by decide) ?_
        refine z_iload dL_isAdded_223 rfl ?_
        refine z_aload dL_isAdded_225 rfl rfl ?_
        refine z_ic ki_1 dL_isAdded_227 ?_
        refine z_iaload dL_isAdded_228 (WA_3 h) rfl (by decide) (by decide) ?_
        rw [g3]
        refine z_icmp_ne (tgt := 263) dL_isAdded_229 (by decide) (fun h229 => ?_) (fun h229 => absurd h229 (fun q => ho ((nI_eq (by omega) (by omega)).mp q)))
        refine z_iload dL_isAdded_263 rfl ?_
        refine z_ic ki_1 dL_isAdded_265 ?_
        refine z_icmp_ne (tgt := 361) dL_isAdded_266 (by decide) (fun h266 => absurd h266 (fun q => q rfl)) (fun h266 => ?_)
        refine z_iload dL_isAdded_269 rfl ?_
        refine z_ldc dL_isAdded_271 lc_RL_100 ?_
        rw [c_999]
        refine z_icmp_le (tgt := 281) dL_isAdded_273 (by decide) (fun h273 => ?_) (fun h273 => absurd (nI_le q1 (by decide)) h273)
        refine z_aload_n dL_isAdded_281 rfl rfl ?_
        refine z_iload dL_isAdded_282 rfl ?_
        refine z_iaload dL_isAdded_284 (WA_1 h) rfl (by omega) (by decide) ?_
        rw [k1]
        refine z_bi kb_10 dL_isAdded_285 ?_
        refine z_icmp_ne (tgt := 295) dL_isAdded_287 (by decide) (fun h287 => ?_) (fun h287 => absurd h287 (fun q => q2 ((nI_eq (by omega) (by decide)).mp q)))
        refine z_aload_n dL_isAdded_295 rfl rfl ?_
        refine z_iload dL_isAdded_296 rfl ?_
        refine z_iaload dL_isAdded_298 (WA_1 h) rfl (by omega) (by decide) ?_
        rw [k1]
        refine z_istore dL_isAdded_299 (by decide) ?_
        refine z_iload dL_isAdded_301 rfl ?_
        refine z_if_lt (tgt := 337) dL_isAdded_303 (by decide) (fun h303 => absurd h303 (nI_pos (by omega))) (fun h303 => ?_)
        refine z_aload_n dL_isAdded_306 rfl rfl ?_
        refine z_bi kb_10 dL_isAdded_307 ?_
        refine z_iload dL_isAdded_309 rfl ?_
        refine z_imul dL_isAdded_311 ?_
        refine z_iload dL_isAdded_312 rfl ?_
        refine z_iadd dL_isAdded_314 ?_
        refine z_iload dL_isAdded_315 rfl ?_
        refine z_iastore dL_isAdded_317 (WA_0 h) (ix10 o n) (by omega) (by decide) ?_
        refine z_aload_n dL_isAdded_318 rfl rfl ?_
        refine z_iload dL_isAdded_319 rfl ?_
        refine z_dup2 dL_isAdded_321 rfl rfl ?_
        refine z_iaload dL_isAdded_322 (WA_1 w1) rfl (by omega) (by decide) ?_
        rw [e322]
        refine z_ic ki_1 dL_isAdded_323 ?_
        refine z_iadd dL_isAdded_324 ?_
        refine z_iastore dL_isAdded_325 (WA_1 w1) rfl (by omega) (by decide) ?_
        refine z_aload_n dL_isAdded_326 rfl rfl ?_
        refine z_iload dL_isAdded_327 rfl ?_
        refine z_dup2 dL_isAdded_329 rfl rfl ?_
        refine z_iaload dL_isAdded_330 (WA_2 w2) rfl (by omega) (by decide) ?_
        rw [e330]
        refine z_ic ki_1 dL_isAdded_331 ?_
        refine z_iload dL_isAdded_332 rfl ?_
        refine z_ishl dL_isAdded_334 ?_
        refine z_ior dL_isAdded_335 ?_
        refine z_iastore dL_isAdded_336 (WA_2 w2) rfl (by omega) (by decide) ?_
        refine z_aload_n dL_isAdded_337 rfl rfl ?_
        refine z_ic ki_1 dL_isAdded_338 ?_
        refine z_iload dL_isAdded_339 rfl ?_
        refine z_iload dL_isAdded_341 rfl ?_
        refine z_iload dL_isAdded_343 rfl ?_
        refine z_ic ki_2 dL_isAdded_345 ?_
        refine z_irem dL_isAdded_346 (by decide) ?_
        rw [e2]
        refine z_isXQ (dd := mL_versions) dL_isAdded_347 cw_RL_90 rfl ⟨by decide, by decide⟩ (n := 5) (by decide +kernel) (hk) ⟨⟨by decide, by decide⟩, (by first | exact Nat.zero_le _ | decide | omega), (by first | exact Nat.zero_le _ | decide | omega)⟩ rfl rfl (Nat.le_of_ble_eq_true rfl) (fun M347 hQ347 => ?_)
        refine z_iload dL_isAdded_350 rfl ?_
        refine z_icmp_ne (tgt := 359) dL_isAdded_352 (by decide) (fun h352 => absurd h352 (fun q => q (by rw [tl_0 (by rw [eo]), eo]))) (fun h352 => ?_)
        refine z_ic ki_1 dL_isAdded_355 ?_
        refine z_goto (tgt := 360) dL_isAdded_356 (by decide) ?_
        refine z_ireturn dL_isAdded_360 rfl (by first | rfl | exact bI_nar _) ?_
        obtain ⟨τ, i1, s1, w6⟩ := hQ347
        rw [eo] at s1
        have hlat := hI.lat hol
        obtain ⟨hV, c1, c2, c3⟩ := vc_adR hI i1 hn h10 s1 (fun _ => hlat.1)
        rw [rvV_c] at c2
        have ha0 := hP.2.1 o hol
        have hP' := PI_sim (PI_adR hP (fun s => (hI.gh.1 σ.un s (Nat.le_refl _)).1) ha0.1 ha0.2 (σ.a 2 (latn σ o 10)) (latn σ o 10) d (rvV σ (latn σ o 10) (nI cc) d)) s1
        refine rQ_of ⟨τ, _, dm, tg, 10 * o + n, i1, hP', LR_new hI hR hn h10 hV ⟨c1, c2⟩ (Or.inl ⟨c3, hol⟩) (by omega) ⟨?_, ?_, ?_, ?_, ?_⟩ (fun f' hf' => ?_) (fun j hj hne => ⟨?_, ?_, ?_⟩) ⟨?_, ?_, ?_⟩ ⟨fun w hw => ?_, ?_⟩, LE_new hI hE hV (fun w => ?_), Or.inr ⟨o, n, by omega, by rw [hV.2.2.2, if_pos rfl], rfl⟩, w6⟩
        · rw [f2_a (by decide), f2_a (by decide), f2_a (by decide)]
        · rw [f2_a (by decide), f2_a (by decide), f2_a (by decide), g3, c3]
        · rw [f2_a (by decide), f2_a (by decide), f2_a (by decide)]
        · rw [f2_a (by decide), f2_a (by decide), f2_a (by decide)]
        · rw [f2_a (by decide), f2_a (by decide), f2_a (by decide)]
        · rw [f2_a (by decide), f2_n (fun z => by have := z.2; omega), f2_a (by decide)]
        · rw [f2_a (by decide), f2_n (fun z => hne z.2), f2_a (by decide)]
        · rw [f2_n (fun z => hne z.2), f2_a (by decide), f2_a (by decide)]
        · rw [f2_n (fun z => by have := z.2; omega), f2_a (by decide), f2_a (by decide)]
        · rw [f2_a (by decide), f2_s]
          exact nI_add n 1
        · rw [f2_s, bset_on _ h10]
        · rw [f2_n (fun z => by have := z.2; omega), f2_a (by decide), f2_a (by decide), k3]
        · rw [f2_a (by decide), f2_a (by decide), f2_n (fun z => hw z.2)]
        · rw [f2_a (by decide), f2_a (by decide), f2_s]
        · rw [f2_a (by decide), f2_a (by decide), f2_a (by decide)]
    · have eo : o_revise σ (nI o) (nI cc) (decide (nI m = nI 1)) = (1, nI 0, σ) := by
        unfold o_revise
        rw [inC_no (by omega) (by omega), if_neg (by decide)]
      refine z_istore dL_isAdded_34 (by decide) ?_
      refine z_iload dL_isAdded_36 rfl ?_
      refine z_if_ne (tgt := 212) dL_isAdded_38 (by decide) (fun h38 => ?_) (fun h38 => absurd h38 (by decide))
      refine z_iload dL_isAdded_212 rfl ?_
      refine z_aload dL_isAdded_214 rfl rfl ?_
      refine z_ic ki_1 dL_isAdded_216 ?_
      refine z_iaload dL_isAdded_217 (WA_3 h) rfl (by decide) (by decide) ?_
      refine z_ic ki_1 dL_isAdded_218 ?_
      refine z_iadd dL_isAdded_219 ?_
      rw [g3, nI_add]
      refine z_irem dL_isAdded_220 hz ?_
      rw [e1]
      refine z_istore dL_isAdded_221 (by decide) ?_
      refine z_iload dL_isAdded_223 rfl ?_
      refine z_aload dL_isAdded_225 rfl rfl ?_
      refine z_ic ki_1 dL_isAdded_227 ?_
      refine z_iaload dL_isAdded_228 (WA_3 h) rfl (by decide) (by decide) ?_
      rw [g3]
      refine z_icmp_ne (tgt := 263) dL_isAdded_229 (by decide) (fun h229 => ?_) (fun h229 => absurd h229 (fun q => ho ((nI_eq (by omega) (by omega)).mp q)))
      refine z_iload dL_isAdded_263 rfl ?_
      refine z_ic ki_1 dL_isAdded_265 ?_
      refine z_icmp_ne (tgt := 361) dL_isAdded_266 (by decide) (fun h266 => absurd h266 (fun q => q rfl)) (fun h266 => ?_)
      refine z_iload dL_isAdded_269 rfl ?_
      refine z_ldc dL_isAdded_271 lc_RL_100 ?_
      rw [c_999]
      refine z_icmp_le (tgt := 281) dL_isAdded_273 (by decide) (fun h273 => absurd h273 (nI_ge (by omega) (by omega))) (fun h273 => ?_)
      refine z_bi kb_m20 dL_isAdded_276 ?_
      refine z_goto (tgt := 299) dL_isAdded_278 (by decide) ?_
      refine z_istore dL_isAdded_299 (by decide) ?_
      refine z_iload dL_isAdded_301 rfl ?_
      refine z_if_lt (tgt := 337) dL_isAdded_303 (by decide) (fun h303 => ?_) (fun h303 => absurd (by decide) h303)
      refine z_aload_n dL_isAdded_337 rfl rfl ?_
      refine z_ic ki_1 dL_isAdded_338 ?_
      refine z_iload dL_isAdded_339 rfl ?_
      refine z_iload dL_isAdded_341 rfl ?_
      refine z_iload dL_isAdded_343 rfl ?_
      refine z_ic ki_2 dL_isAdded_345 ?_
      refine z_irem dL_isAdded_346 (by decide) ?_
      rw [e2]
      refine z_isXQ (dd := mL_versions) dL_isAdded_347 cw_RL_90 rfl ⟨by decide, by decide⟩ (n := 5) (by decide +kernel) (h_revise g hI hB h (nI o) (nI cc) (nI m)) ⟨⟨by decide, by decide⟩, (by first | exact Nat.zero_le _ | decide | omega), (by first | exact Nat.zero_le _ | decide | omega)⟩ rfl rfl (Nat.le_of_ble_eq_true rfl) (fun M347 hQ347 => ?_)
      refine z_iload dL_isAdded_350 rfl ?_
      refine z_icmp_ne (tgt := 359) dL_isAdded_352 (by decide) (fun h352 => absurd h352 (fun q => q (tl_1 (by rw [eo])))) (fun h352 => ?_)
      refine z_ic ki_1 dL_isAdded_355 ?_
      refine z_goto (tgt := 360) dL_isAdded_356 (by decide) ?_
      refine z_ireturn dL_isAdded_360 rfl (by first | rfl | exact bI_nar _) ?_
      exact rQ_of (JA_q (JQ_same hP hR hE (by rw [eo]) hQ347))
end STEPR
