/-! the law's steps: sites, audits, replication -/
section STEPL
variable (g : GG) {A0 : Nat → Nat → Nat} {B : Nat} {σ : ST} {ar : Nat → Nat → Int32} {dm tg : Bool} {M : Mem}
theorem c_L_isCopy1 (hI : INV B σ) (hP : PI σ dm tg) (hR : LR σ ar dm tg) (hE : LE σ ar 1000) (h : WA g A0 σ ar M) {one two three : Nat} (h1 : one < 2 ^ 31) : con g mL_isCopy 65 390 [.ref (A0 0 0), .ref (A0 20 3), .int (nI 1), .int (nI one), .int (nI two), .int (nI three)] M (rQ (some (.int (nI 1))) (JQ g A0 B)) := by
  refine con_i ?_ (by decide) rfl rfl (by simp [lv_args, Value.category]) (by simp [lv_args, lnd, Value.category])
  have hR2 := hR
  obtain ⟨g1, ⟨g2, g3, g4, g5, g6⟩, g7, g8, g9⟩ := hR2
  have hu60 := un_60 hI g1
  have e1 : nI one - nI one / nI 5 * nI 5 = nI (one % 5) := pk_rem h1 (by decide) (by decide)
  have l1 : one % 5 < 5 := Nat.mod_lt _ (by decide)
  generalize one % 5 = s at e1 l1
  have es : tN (nI s) = s := nI_clamp (by omega)
  have htl := tA_le σ s
  -- behind the count
  have fin : ∀ (M' : Mem) (x8 : Int32), WA g A0 σ ar M' → tri g mL_isCopy 1 6 (rQ (some (.int (nI 1))) (JQ g A0 B)) M' 315 [(0, .ref (A0 0 0)), (1, .ref (A0 20 3)), (2, .int (nI 1)), (3, .int (nI one)), (4, .int (nI two)), (5, .int (nI three)), (6, .int (nI s)), (7, .int (nI (tA σ s 64))), (8, .int x8)] [] := by
    intro M' x8 hw
    by_cases hs : s < 4
    · have eo : o_toggleSite σ (nI s) = (0, nI (clN σ s σ.un), clS s σ.un (σ.sb 4 s (!σ.b 4 s))) := by
        unfold o_toggleSite
        rw [show inK 0 3 (nI s) = true from decide_eq_true ⟨nI_le (Nat.zero_le _) (by omega), nI_le (by omega) (by decide)⟩, if_pos rfl, es]
      have e64 := tA_64 hI hP g1 hs
      have e321 : tl (o_toggleSite σ (nI s)) (-20) (-20) (-20) = nI (tA σ s 64) := by rw [tl_0 (by rw [eo]), eo, e64]
      refine z_aload_n dL_isCopy_315 rfl rfl ?_
      refine z_ic ki_3 dL_isCopy_316 ?_
      refine z_iload dL_isCopy_317 rfl ?_
      refine z_ic ki_0 dL_isCopy_319 ?_
      refine z_ic ki_0 dL_isCopy_320 ?_
      refine z_isXQ (dd := mL_copies) dL_isCopy_321 cw_RL_74 rfl ⟨by decide, by decide⟩ (n := 5) (by decide +kernel) (h_toggleSite g hI hw (nI s) (nI 0) (nI 0)) ⟨⟨by decide, by decide⟩, (by first | exact Nat.zero_le _ | decide | omega), (by first | exact Nat.zero_le _ | decide | omega)⟩ rfl rfl (Nat.le_of_ble_eq_true rfl) (fun M321 hQ321 => ?_)
      obtain ⟨τ, i1, s1, w1⟩ := hQ321
      rw [eo] at s1
      rw [e321]
      have w2 := WA_p3 w1 2 (bset (σ.b 4) 4 ^^^ (nI 1 <<< (nI s &&& 31)))
      have w3 := WA_p3 w2 4 (nI 1)
      refine z_istore dL_isCopy_324 (by decide) ?_
      refine z_aload_n dL_isCopy_326 rfl rfl ?_
      refine z_ic ki_2 dL_isCopy_327 ?_
      refine z_iload dL_isCopy_328 rfl ?_
      refine z_ic ki_3 dL_isCopy_330 ?_
      refine z_icmp_le (tgt := 340) dL_isCopy_331 (by decide) (fun h331 => ?_) (fun h331 => absurd (nI_le (by omega) (by decide)) h331)
      refine z_aload_n dL_isCopy_340 rfl rfl ?_
      refine z_ic ki_2 dL_isCopy_341 ?_
      refine z_iaload dL_isCopy_342 (WA_3 w1) rfl (by decide) (by decide) ?_
      rw [g4]
      refine z_ic ki_1 dL_isCopy_343 ?_
      refine z_iload dL_isCopy_344 rfl ?_
      refine z_ishl dL_isCopy_346 ?_
      refine z_ixor dL_isCopy_347 ?_
      refine z_iastore dL_isCopy_348 (WA_3 w1) rfl (by decide) (by decide) ?_
      refine z_aload_n dL_isCopy_349 rfl rfl ?_
      refine z_ic ki_4 dL_isCopy_350 ?_
      refine z_ic ki_1 dL_isCopy_351 ?_
      refine z_iastore dL_isCopy_352 (WA_3 w2) rfl (by decide) (by decide) ?_
      refine z_iload dL_isCopy_353 rfl ?_
      refine z_iload dL_isCopy_355 rfl ?_
      refine z_ic ki_3 dL_isCopy_357 ?_
      refine z_icmp_le (tgt := 366) dL_isCopy_358 (by decide) (fun h358 => ?_) (fun h358 => absurd (nI_le (by omega) (by decide)) h358)
      refine z_iload dL_isCopy_366 rfl ?_
      refine z_icmp_ne (tgt := 375) dL_isCopy_368 (by decide) (fun h368 => absurd h368 (fun q => q rfl)) (fun h368 => ?_)
      refine z_ic ki_1 dL_isCopy_371 ?_
      refine z_goto (tgt := 376) dL_isCopy_372 (by decide) ?_
      refine z_ireturn dL_isCopy_376 rfl (by first | rfl | exact bI_nar _) ?_
      have hP' := PI_tog hP (fun u t hu => (hI.gh.1 u t hu).1) s
      obtain ⟨c1, c2, c3, c4, -, c6⟩ := clS_same s σ.un (σ.sb 4 s (!σ.b 4 s))
      have hs' : SO σ (clS s σ.un (σ.sb 4 s (!σ.b 4 s))) := ⟨congrFun c1 1, fun j => ⟨congrFun (congrFun c2 1) j, congrFun (congrFun c2 2) j, congrFun (congrFun c2 3) j, congrFun (congrFun c2 4) j⟩, fun j => ⟨congrFun (congrFun c4 0) j, congrFun (congrFun c4 2) j⟩, fun j => congrFun (congrFun c3 2) j⟩
      have e0 : ∀ i k, i ≠ 3 → f2 (f2 ar 3 2 (bset (σ.b 4) 4 ^^^ (nI 1 <<< (nI s &&& 31)))) 3 4 (nI 1) i k = ar i k := fun i k q1 => by rw [f2_a q1, f2_a q1]
      refine rQ_of (JQ_so (o := (0, nI 0, clS s σ.un (σ.sb 4 s (!σ.b 4 s)))) (dm' := dm) (tg' := true) hR hE hs' hP' rfl ⟨τ, i1, s1, w3⟩ ⟨?_, ?_, ?_, ?_, ?_⟩ (fun f hf => ?_) (fun j hj => ⟨e0 1 _ (by decide), e0 2 _ (by decide), e0 2 _ (by decide)⟩) (fun w => e0 0 _ (by decide)) (fun w => e0 4 _ (by decide)))
      · rw [f2_n (fun z => absurd z.2 (by decide)), f2_n (fun z => absurd z.2 (by decide)), g2]
        exact congrArg nI (congrFun c1 0).symm
      · rw [f2_n (fun z => absurd z.2 (by decide)), f2_n (fun z => absurd z.2 (by decide))]
      · rw [f2_n (fun z => absurd z.2 (by decide)), f2_s, ← bset4_flp (σ.b 4) hs]
        refine bset_ext 4 (fun k _ => ?_)
        have e : (clS s σ.un (σ.sb 4 s (!σ.b 4 s))).b 4 k = (σ.sb 4 s (!σ.b 4 s)).b 4 k := congrFun (congrFun c4 4) k
        rw [e]
        exact (congrFun (f2_u (f := σ.2.2.2.1) (a := 4) (i := s) (v := !σ.b 4 s)) k).symm
      · rw [f2_n (fun z => absurd z.2 (by decide)), f2_n (fun z => absurd z.2 (by decide)), g5]
      · rw [f2_s]
        rfl
      · have ei : (clS s σ.un (σ.sb 4 s (!σ.b 4 s))).i 0 f = σ.i 0 f := congrFun (congrFun c3 0) f
        rw [e0 1 _ (by decide), ei]
        exact g7 f (Nat.lt_of_lt_of_eq hf (congrFun c1 0))
    · have eo : o_toggleSite σ (nI s) = (1, nI 0, σ) := by
        unfold o_toggleSite
        rw [show inK 0 3 (nI s) = false from decide_eq_false (fun z => hs (by have := (nI_leI (by omega) (by decide)).mp z.2; omega)), if_neg (by decide)]
      refine z_aload_n dL_isCopy_315 rfl rfl ?_
      refine z_ic ki_3 dL_isCopy_316 ?_
      refine z_iload dL_isCopy_317 rfl ?_
      refine z_ic ki_0 dL_isCopy_319 ?_
      refine z_ic ki_0 dL_isCopy_320 ?_
      refine z_isXQ (dd := mL_copies) dL_isCopy_321 cw_RL_74 rfl ⟨by decide, by decide⟩ (n := 5) (by decide +kernel) (h_toggleSite g hI hw (nI s) (nI 0) (nI 0)) ⟨⟨by decide, by decide⟩, (by first | exact Nat.zero_le _ | decide | omega), (by first | exact Nat.zero_le _ | decide | omega)⟩ rfl rfl (Nat.le_of_ble_eq_true rfl) (fun M321 hQ321 => ?_)
      obtain ⟨τ, i1, s1, w1⟩ := hQ321
      rw [eo] at s1
      have w2 := WA_p3 w1 2 (ar 3 2)
      rw [f2_id] at w2
      have w3 := WA_p3 w2 4 (nI 1)
      refine z_istore dL_isCopy_324 (by decide) ?_
      refine z_aload_n dL_isCopy_326 rfl rfl ?_
      refine z_ic ki_2 dL_isCopy_327 ?_
      refine z_iload dL_isCopy_328 rfl ?_
      refine z_ic ki_3 dL_isCopy_330 ?_
      refine z_icmp_le (tgt := 340) dL_isCopy_331 (by decide) (fun h331 => absurd h331 (nI_ge (by omega) (by omega))) (fun h331 => ?_)
      refine z_aload_n dL_isCopy_334 rfl rfl ?_
      refine z_ic ki_2 dL_isCopy_335 ?_
      refine z_iaload dL_isCopy_336 (WA_3 w1) rfl (by decide) (by decide) ?_
      refine z_goto (tgt := 348) dL_isCopy_337 (by decide) ?_
      refine z_iastore dL_isCopy_348 (WA_3 w1) rfl (by decide) (by decide) ?_
      refine z_aload_n dL_isCopy_349 rfl rfl ?_
      refine z_ic ki_4 dL_isCopy_350 ?_
      refine z_ic ki_1 dL_isCopy_351 ?_
      refine z_iastore dL_isCopy_352 (WA_3 w2) rfl (by decide) (by decide) ?_
      refine z_iload dL_isCopy_353 rfl ?_
      refine z_iload dL_isCopy_355 rfl ?_
      refine z_ic ki_3 dL_isCopy_357 ?_
      refine z_icmp_le (tgt := 366) dL_isCopy_358 (by decide) (fun h358 => absurd h358 (nI_ge (by omega) (by omega))) (fun h358 => ?_)
      refine z_bi kb_m20 dL_isCopy_361 ?_
      refine z_goto (tgt := 368) dL_isCopy_363 (by decide) ?_
      refine z_icmp_ne (tgt := 375) dL_isCopy_368 (by decide) (fun h368 => absurd h368 (fun q => q (tl_1 (by rw [eo])))) (fun h368 => ?_)
      refine z_ic ki_1 dL_isCopy_371 ?_
      refine z_goto (tgt := 376) dL_isCopy_372 (by decide) ?_
      refine z_ireturn dL_isCopy_376 rfl (by first | rfl | exact bI_nar _) ?_
      have e0 : ∀ i k, i ≠ 3 → f2 ar 3 4 (nI 1) i k = ar i k := fun i k q1 => by rw [f2_a q1]
      refine rQ_of (JQ_so (o := (0, nI 0, σ)) (dm' := dm) (tg' := true) hR hE (SO_refl σ) (PI_tg hP) rfl ⟨τ, i1, s1, w3⟩ ⟨?_, ?_, ?_, ?_, ?_⟩ (fun f hf => ?_) (fun j hj => ⟨e0 1 _ (by decide), e0 2 _ (by decide), e0 2 _ (by decide)⟩) (fun w => e0 0 _ (by decide)) (fun w => e0 4 _ (by decide)))
      · rw [f2_n (fun z => absurd z.2 (by decide)), g2]
      · rw [f2_n (fun z => absurd z.2 (by decide))]
      · rw [f2_n (fun z => absurd z.2 (by decide)), g4]
      · rw [f2_n (fun z => absurd z.2 (by decide)), g5]
      · rw [f2_s]
        rfl
      · rw [e0 1 _ (by decide)]
        exact g7 f hf
  have loop : ∀ j, j ≤ 64 → ∀ (M' : Mem) x7 x8, WA g A0 σ ar M' → x7 = nI (tA σ s j) → x8 = nI j → tri g mL_isCopy ((64 - j) + 1) (6 * (64 - j) + 6) (rQ (some (.int (nI 1))) (JQ g A0 B)) M' 264 [(0, .ref (A0 0 0)), (1, .ref (A0 20 3)), (2, .int (nI 1)), (3, .int (nI one)), (4, .int (nI two)), (5, .int (nI three)), (6, .int (nI s)), (7, .int x7), (8, .int x8)] [] := by
    refine lp_up 64 ?_ ?_
    · intro M' x7 x8 hw e7 e8
      subst e7 e8
      refine z_iload dL_isCopy_264 rfl ?_
      refine z_bi kb_64 dL_isCopy_266 ?_
      refine z_icmp_ge (tgt := 315) dL_isCopy_268 (by decide) (fun h268 => ?_) (fun h268 => absurd (nI_le (by omega) (by omega)) h268)
      exact (fin _ _ hw).wk (by omega) (by omega)
    · intro j hj ih M' x7 x8 hw e7 e8
      subst e7 e8
      have ej : tN (nI j) = j := nI_clamp (by omega)
      have et : tA σ s (j + 1) = tA σ s j + (if (decide (s < 4) && (isU σ (nI j) && σ.cp j s)) = true then 1 else 0) := rfl
      by_cases hs : s < 4
      · cases hU : isU σ (nI j) with
        | true =>
          have e277 : tl (o_sites σ (nI j)) (-30) (-30) (-30) = bset (σ.cp j) 4 := by rw [t_sites, hU, if_pos rfl, ej]
          have etb : (bset (σ.cp j) 4 >>> (nI s &&& 31)) &&& nI 1 = bI (σ.cp j s) := tx4 _ hs
          have e7 : nI (tA σ s j) + bI (σ.cp j s) = nI (tA σ s (j + 1)) := by rw [et, decide_eq_true hs, hU, Bool.true_and, Bool.true_and, bI_n, nI_add]
          refine z_iload dL_isCopy_264 rfl ?_
          refine z_bi kb_64 dL_isCopy_266 ?_
          refine z_icmp_ge (tgt := 315) dL_isCopy_268 (by decide) (fun h268 => absurd h268 (nI_ge hj (by omega))) (fun h268 => ?_)
          refine z_aload_n dL_isCopy_271 rfl rfl ?_
          refine z_ic ki_0 dL_isCopy_272 ?_
          refine z_iload dL_isCopy_273 rfl ?_
          refine z_ic ki_0 dL_isCopy_275 ?_
          refine z_ic ki_0 dL_isCopy_276 ?_
          refine z_isXQ (dd := mL_copies) dL_isCopy_277 cw_RL_74 rfl ⟨by decide, by decide⟩ (n := 5) (by decide +kernel) (h_sites g hI hw (nI j) (nI 0) (nI 0)) ⟨⟨by decide, by decide⟩, (by first | exact Nat.zero_le _ | decide | omega), (by first | exact Nat.zero_le _ | decide | omega)⟩ rfl rfl (Nat.le_of_ble_eq_true rfl) (fun M277 hQ277 => ?_)
          rw [e277]
          refine z_istore dL_isCopy_280 (by decide) ?_
          refine z_iload dL_isCopy_282 rfl ?_
          refine z_iload dL_isCopy_284 rfl ?_
          refine z_ic ki_4 dL_isCopy_286 ?_
          refine z_icmp_ge (tgt := 305) dL_isCopy_287 (by decide) (fun h287 => absurd h287 (nI_ge hs (by decide))) (fun h287 => ?_)
          refine z_iload dL_isCopy_290 rfl ?_
          refine z_if_lt (tgt := 305) dL_isCopy_292 (by decide) (fun h292 => absurd h292 (bset4_pos _)) (fun h292 => ?_)
          refine z_iload dL_isCopy_295 rfl ?_
          refine z_iload dL_isCopy_297 rfl ?_
          refine z_ishr dL_isCopy_299 ?_
          refine z_ic ki_1 dL_isCopy_300 ?_
          refine z_iand dL_isCopy_301 ?_
          rw [etb]
          refine z_goto (tgt := 306) dL_isCopy_302 (by decide) ?_
          refine z_iadd dL_isCopy_306 ?_
          refine z_istore dL_isCopy_307 (by decide) ?_
          refine z_inc ki_1 dL_isCopy_309 rfl (by decide) ?_
          refine z_goto (tgt := 264) dL_isCopy_312 (by decide) ?_
          refine tri.take 9 ?_
          exact (ih _ _ _ hQ277 e7 (nI_add j 1)).wk (by omega) (by omega)
        | false =>
          have e277 : tl (o_sites σ (nI j)) (-30) (-30) (-30) = -30 := by rw [t_sites, hU, if_neg (by decide)]
          have e7 : nI (tA σ s j) + nI 0 = nI (tA σ s (j + 1)) := by rw [et, hU, Bool.false_and, Bool.and_false, if_neg (by decide), nI_add]
          refine z_iload dL_isCopy_264 rfl ?_
          refine z_bi kb_64 dL_isCopy_266 ?_
          refine z_icmp_ge (tgt := 315) dL_isCopy_268 (by decide) (fun h268 => absurd h268 (nI_ge hj (by omega))) (fun h268 => ?_)
          refine z_aload_n dL_isCopy_271 rfl rfl ?_
          refine z_ic ki_0 dL_isCopy_272 ?_
          refine z_iload dL_isCopy_273 rfl ?_
          refine z_ic ki_0 dL_isCopy_275 ?_
          refine z_ic ki_0 dL_isCopy_276 ?_
          refine z_isXQ (dd := mL_copies) dL_isCopy_277 cw_RL_74 rfl ⟨by decide, by decide⟩ (n := 5) (by decide +kernel) (h_sites g hI hw (nI j) (nI 0) (nI 0)) ⟨⟨by decide, by decide⟩, (by first | exact Nat.zero_le _ | decide | omega), (by first | exact Nat.zero_le _ | decide | omega)⟩ rfl rfl (Nat.le_of_ble_eq_true rfl) (fun M277 hQ277 => ?_)
          rw [e277]
          refine z_istore dL_isCopy_280 (by decide) ?_
          refine z_iload dL_isCopy_282 rfl ?_
          refine z_iload dL_isCopy_284 rfl ?_
          refine z_ic ki_4 dL_isCopy_286 ?_
          refine z_icmp_ge (tgt := 305) dL_isCopy_287 (by decide) (fun h287 => absurd h287 (nI_ge hs (by decide))) (fun h287 => ?_)
          refine z_iload dL_isCopy_290 rfl ?_
          refine z_if_lt (tgt := 305) dL_isCopy_292 (by decide) (fun h292 => ?_) (fun h292 => absurd (by decide) h292)
          refine z_ic ki_0 dL_isCopy_305 ?_
          refine z_iadd dL_isCopy_306 ?_
          refine z_istore dL_isCopy_307 (by decide) ?_
          refine z_inc ki_1 dL_isCopy_309 rfl (by decide) ?_
          refine z_goto (tgt := 264) dL_isCopy_312 (by decide) ?_
          refine tri.take 9 ?_
          exact (ih _ _ _ hQ277 e7 (nI_add j 1)).wk (by omega) (by omega)
      · have e7 : nI (tA σ s j) + nI 0 = nI (tA σ s (j + 1)) := by rw [et, decide_eq_false hs, Bool.false_and, if_neg (by decide), nI_add]
        refine z_iload dL_isCopy_264 rfl ?_
        refine z_bi kb_64 dL_isCopy_266 ?_
        refine z_icmp_ge (tgt := 315) dL_isCopy_268 (by decide) (fun h268 => absurd h268 (nI_ge hj (by omega))) (fun h268 => ?_)
        refine z_aload_n dL_isCopy_271 rfl rfl ?_
        refine z_ic ki_0 dL_isCopy_272 ?_
        refine z_iload dL_isCopy_273 rfl ?_
        refine z_ic ki_0 dL_isCopy_275 ?_
        refine z_ic ki_0 dL_isCopy_276 ?_
        refine z_isXQ (dd := mL_copies) dL_isCopy_277 cw_RL_74 rfl ⟨by decide, by decide⟩ (n := 5) (by decide +kernel) (h_sites g hI hw (nI j) (nI 0) (nI 0)) ⟨⟨by decide, by decide⟩, (by first | exact Nat.zero_le _ | decide | omega), (by first | exact Nat.zero_le _ | decide | omega)⟩ rfl rfl (Nat.le_of_ble_eq_true rfl) (fun M277 hQ277 => ?_)
        refine z_istore dL_isCopy_280 (by decide) ?_
        refine z_iload dL_isCopy_282 rfl ?_
        refine z_iload dL_isCopy_284 rfl ?_
        refine z_ic ki_4 dL_isCopy_286 ?_
        refine z_icmp_ge (tgt := 305) dL_isCopy_287 (by decide) (fun h287 => ?_) (fun h287 => absurd (nI_le (by omega) (by omega)) h287)
        refine z_ic ki_0 dL_isCopy_305 ?_
        refine z_iadd dL_isCopy_306 ?_
        refine z_istore dL_isCopy_307 (by decide) ?_
        refine z_inc ki_1 dL_isCopy_309 rfl (by decide) ?_
        refine z_goto (tgt := 264) dL_isCopy_312 (by decide) ?_
        refine tri.take 9 ?_
        exact (ih _ _ _ hQ277 e7 (nI_add j 1)).wk (by omega) (by omega)
  refine z_iload_n dL_isCopy_0 rfl ?_
  refine z_if_ne (tgt := 248) dL_isCopy_1 (by decide) (fun h1 => ?_) (fun h1 => absurd h1 (by decide))
  refine z_iload_n dL_isCopy_248 rfl ?_
  refine z_ic ki_1 dL_isCopy_249 ?_
  refine z_icmp_ne (tgt := 377) dL_isCopy_250 (by decide) (fun h250 => absurd h250 (fun q => q rfl)) (fun h250 => ?_)
  refine z_iload_n dL_isCopy_253 rfl ?_
  refine z_ic ki_5 dL_isCopy_254 ?_
  refine z_irem dL_isCopy_255 (by decide) ?_
  rw [e1]
  refine z_istore dL_isCopy_256 (by decide) ?_
  refine z_ic ki_0 dL_isCopy_258 ?_
  refine z_istore dL_isCopy_259 (by decide) ?_
  refine z_ic ki_0 dL_isCopy_261 ?_
  refine z_istore dL_isCopy_262 (by decide) ?_
  exact loop 0 (by omega) _ _ _ h rfl rfl
theorem c_L_isCopy2 (hI : INV B σ) (hB : B < 2147483648) (hP : PI σ dm tg) (hR : LR σ ar dm tg) (hE : LE σ ar 1000) (h : WA g A0 σ ar M) {one two three : Nat} (h2 : two < 2 ^ 31) : con g mL_isCopy 1 6 [.ref (A0 0 0), .ref (A0 20 3), .int (nI 2), .int (nI one), .int (nI two), .int (nI three)] M (rQ (some (.int (nI 1))) (JQ g A0 B)) := by
  refine con_i ?_ (by decide) rfl rfl (by simp [lv_args, Value.category]) (by simp [lv_args, lnd, Value.category])
  have hR2 := hR
  obtain ⟨g1, ⟨g2, g3, g4, g5, g6⟩, g7, g8, g9⟩ := hR2
  have e2 : nI two - nI two / nI 102 * nI 102 = nI (two % 102) := pk_rem h2 (by decide) (by decide)
  have l2 : two % 102 < 102 := Nat.mod_lt _ (by decide)
  generalize two % 102 = k at e2 l2
  have ek : tN (nI k) = k := nI_clamp (by omega)
  by_cases hk : 1 ≤ k ∧ k ≤ 100
  · have hin : inK 1 100 (nI k) = true := decide_eq_true ⟨nI_le hk.1 (by omega), nI_le hk.2 (by decide)⟩
    cases hn : nxt σ with
    | none =>
      have eo : o_audit σ (nI k) = (2, nI 0, σ) := by
        unfold o_audit
        rw [hin, if_pos rfl, hn]
        rfl
      have e395 : tl (o_audit σ (nI k)) (-20) (-10) (-10) = -10 := tl_2 (by rw [eo])
      refine z_iload_n dL_isCopy_0 rfl ?_
      refine z_if_ne (tgt := 248) dL_isCopy_1 (by decide) (fun h1 => ?_) (fun h1 => absurd h1 (by decide))
      refine z_iload_n dL_isCopy_248 rfl ?_
      refine z_ic ki_1 dL_isCopy_249 ?_
      refine z_icmp_ne (tgt := 377) dL_isCopy_250 (by decide) (fun h250 => ?_) (fun h250 => absurd h250 (by decide))
      refine z_iload_n dL_isCopy_377 rfl ?_
      refine z_ic ki_2 dL_isCopy_378 ?_
      refine z_icmp_ne (tgt := 465) dL_isCopy_379 (by decide) (fun h379 => absurd h379 (fun q => q rfl)) (fun h379 => ?_)
      refine z_iload dL_isCopy_382 rfl ?_
      refine z_bi kb_102 dL_isCopy_384 ?_
      refine z_irem dL_isCopy_386 (by decide) ?_
      rw [e2]
      refine z_istore dL_isCopy_387 (by decide) ?_
      refine z_aload_n dL_isCopy_389 rfl rfl ?_
      refine z_ic ki_4 dL_isCopy_390 ?_
      refine z_iload dL_isCopy_391 rfl ?_
      refine z_ic ki_0 dL_isCopy_393 ?_
      refine z_ic ki_0 dL_isCopy_394 ?_
      refine z_isXQ (dd := mL_copies) dL_isCopy_395 cw_RL_74 rfl ⟨by decide, by decide⟩ (n := 5) (by decide +kernel) (h_audit g hI hB h (nI k) (nI 0) (nI 0)) ⟨⟨by decide, by decide⟩, (by first | exact Nat.zero_le _ | decide | omega), (by first | exact Nat.zero_le _ | decide | omega)⟩ rfl rfl (Nat.le_of_ble_eq_true rfl) (fun M395 hQ395 => ?_)
      rw [e395]
      refine z_istore dL_isCopy_398 (by decide) ?_
      refine z_iload dL_isCopy_400 rfl ?_
      refine z_ic ki_1 dL_isCopy_402 ?_
      refine z_icmp_lt (tgt := 413) dL_isCopy_403 (by decide) (fun h403 => absurd h403 (nI_nlt hk.1 (by omega))) (fun h403 => ?_)
      refine z_iload dL_isCopy_406 rfl ?_
      refine z_bi kb_100 dL_isCopy_408 ?_
      refine z_icmp_le (tgt := 428) dL_isCopy_410 (by decide) (fun h410 => ?_) (fun h410 => absurd (nI_le hk.2 (by decide)) h410)
      refine z_iload dL_isCopy_428 rfl ?_
      refine z_bi kb_m10 dL_isCopy_430 ?_
      refine z_icmp_eq (tgt := 459) dL_isCopy_432 (by decide) (fun h432 => ?_) (fun h432 => absurd rfl h432)
      refine z_ic ki_1 dL_isCopy_459 ?_
      refine z_goto (tgt := 464) dL_isCopy_460 (by decide) ?_
      refine z_ireturn dL_isCopy_464 rfl (by first | rfl | exact bI_nar _) ?_
      exact rQ_of (JQ_same hP hR hE (by rw [eo]) hQ395)
    | some m =>
      have eo : o_audit σ (nI k) = (0, nI (auN k σ), auS k σ) := by
        unfold o_audit
        rw [hin, if_pos rfl, hn, ek]
        rfl
      obtain ⟨p1, p2, p3⟩ := auS_PI k hP
      have e395 : tl (o_audit σ (nI k)) (-20) (-10) (-10) = nI (auN k σ) := by rw [tl_0 (by rw [eo]), eo]
      have hnz : ¬ nI (auN k σ) = -10 := fun q => by
        have q1 := nI_pos (n := auN k σ) (by omega)
        rw [q] at q1
        exact q1 (by decide)
      have hdm : ¬ ar 3 3 = nI 1 → auN k σ = 0 := fun q => p3 (by
        cases dm with
        | true => exact absurd g5 q
        | false => rfl)
      refine z_iload_n dL_isCopy_0 rfl ?_
      refine z_if_ne (tgt := 248) dL_isCopy_1 (by decide) (fun h1 => ?_) (fun h1 => absurd h1 (by decide))
      refine z_iload_n dL_isCopy_248 rfl ?_
      refine z_ic ki_1 dL_isCopy_249 ?_
      refine z_icmp_ne (tgt := 377) dL_isCopy_250 (by decide) (fun h250 => ?_) (fun h250 => absurd h250 (by decide))
      refine z_iload_n dL_isCopy_377 rfl ?_
      refine z_ic ki_2 dL_isCopy_378 ?_
      refine z_icmp_ne (tgt := 465) dL_isCopy_379 (by decide) (fun h379 => absurd h379 (fun q => q rfl)) (fun h379 => ?_)
      refine z_iload dL_isCopy_382 rfl ?_
      refine z_bi kb_102 dL_isCopy_384 ?_
      refine z_irem dL_isCopy_386 (by decide) ?_
      rw [e2]
      refine z_istore dL_isCopy_387 (by decide) ?_
      refine z_aload_n dL_isCopy_389 rfl rfl ?_
      refine z_ic ki_4 dL_isCopy_390 ?_
      refine z_iload dL_isCopy_391 rfl ?_
      refine z_ic ki_0 dL_isCopy_393 ?_
      refine z_ic ki_0 dL_isCopy_394 ?_
      refine z_isXQ (dd := mL_copies) dL_isCopy_395 cw_RL_74 rfl ⟨by decide, by decide⟩ (n := 5) (by decide +kernel) (h_audit g hI hB h (nI k) (nI 0) (nI 0)) ⟨⟨by decide, by decide⟩, (by first | exact Nat.zero_le _ | decide | omega), (by first | exact Nat.zero_le _ | decide | omega)⟩ rfl rfl (Nat.le_of_ble_eq_true rfl) (fun M395 hQ395 => ?_)
      rw [e395]
      obtain ⟨τ, i1, s1, w1⟩ := hQ395
      refine z_istore dL_isCopy_398 (by decide) ?_
      refine z_iload dL_isCopy_400 rfl ?_
      refine z_ic ki_1 dL_isCopy_402 ?_
      refine z_icmp_lt (tgt := 413) dL_isCopy_403 (by decide) (fun h403 => absurd h403 (nI_nlt hk.1 (by omega))) (fun h403 => ?_)
      refine z_iload dL_isCopy_406 rfl ?_
      refine z_bi kb_100 dL_isCopy_408 ?_
      refine z_icmp_le (tgt := 428) dL_isCopy_410 (by decide) (fun h410 => ?_) (fun h410 => absurd (nI_le hk.2 (by decide)) h410)
      refine z_iload dL_isCopy_428 rfl ?_
      refine z_bi kb_m10 dL_isCopy_430 ?_
      refine z_icmp_eq (tgt := 459) dL_isCopy_432 (by decide) (fun h432 => absurd h432 hnz) (fun h432 => ?_)
      refine z_iload dL_isCopy_435 rfl ?_
      refine z_if_lt (tgt := 463) dL_isCopy_437 (by decide) (fun h437 => absurd h437 (nI_pos (by omega))) (fun h437 => ?_)
      refine z_iload dL_isCopy_440 rfl ?_
      refine z_iload dL_isCopy_442 rfl ?_
      refine z_icmp_gt (tgt := 463) dL_isCopy_444 (by decide) (fun h444 => absurd h444 (nI_nlt p2 (by omega))) (fun h444 => ?_)
      refine z_aload_n dL_isCopy_447 rfl rfl ?_
      refine z_ic ki_3 dL_isCopy_448 ?_
      refine z_iaload dL_isCopy_449 (WA_3 w1) rfl (by decide) (by decide) ?_
      refine z_ic ki_1 dL_isCopy_450 ?_
      refine z_icmp_eq (tgt := 459) dL_isCopy_451 (by decide) (fun h451 => ?_) (fun h451 => ?_)
      · refine z_ic ki_1 dL_isCopy_459 ?_
        refine z_goto (tgt := 464) dL_isCopy_460 (by decide) ?_
        refine z_ireturn dL_isCopy_464 rfl (by first | rfl | exact bI_nar _) ?_
        obtain ⟨c1, c2, c3, c4, -, c6⟩ := auS_same k σ
        have hs' : SO σ (auS k σ) := ⟨c1 1 (by decide), fun j => ⟨congrFun (congrFun c2 1) j, congrFun (congrFun c2 2) j, congrFun (congrFun c2 3) j, congrFun (congrFun c2 4) j⟩, fun j => ⟨congrFun (congrFun c4 0) j, congrFun (congrFun c4 2) j⟩, fun j => congrFun (congrFun c3 2) j⟩
        refine rQ_of (JQ_so (dm' := dm) (tg' := tg) hR hE hs' p1 (by rw [eo]) ⟨τ, i1, s1, w1⟩ ⟨?_, rfl, ?_, g5, g6⟩ (fun f hf => ?_) (fun j hj => ⟨rfl, rfl, rfl⟩) (fun w => rfl) (fun w => rfl))
        · rw [g2]
          exact congrArg nI (c1 0 (by decide)).symm
        · rw [g4]
          exact bset_ext 4 (fun x _ => (congrFun (congrFun c4 4) x).symm)
        · have ei : (auS k σ).i 0 f = σ.i 0 f := congrFun (congrFun c3 0) f
          rw [ei]
          exact g7 f (Nat.lt_of_lt_of_eq hf (c1 0 (by decide)))
      · refine z_iload dL_isCopy_454 rfl ?_
        refine z_if_ne (tgt := 463) dL_isCopy_456 (by decide) (fun h456 => absurd h456 (fun q => q (by rw [hdm h451]; rfl))) (fun h456 => ?_)
        refine z_ic ki_1 dL_isCopy_459 ?_
        refine z_goto (tgt := 464) dL_isCopy_460 (by decide) ?_
        refine z_ireturn dL_isCopy_464 rfl (by first | rfl | exact bI_nar _) ?_
        obtain ⟨c1, c2, c3, c4, -, c6⟩ := auS_same k σ
        have hs' : SO σ (auS k σ) := ⟨c1 1 (by decide), fun j => ⟨congrFun (congrFun c2 1) j, congrFun (congrFun c2 2) j, congrFun (congrFun c2 3) j, congrFun (congrFun c2 4) j⟩, fun j => ⟨congrFun (congrFun c4 0) j, congrFun (congrFun c4 2) j⟩, fun j => congrFun (congrFun c3 2) j⟩
        refine rQ_of (JQ_so (dm' := dm) (tg' := tg) hR hE hs' p1 (by rw [eo]) ⟨τ, i1, s1, w1⟩ ⟨?_, rfl, ?_, g5, g6⟩ (fun f hf => ?_) (fun j hj => ⟨rfl, rfl, rfl⟩) (fun w => rfl) (fun w => rfl))
        · rw [g2]
          exact congrArg nI (c1 0 (by decide)).symm
        · rw [g4]
          exact bset_ext 4 (fun x _ => (congrFun (congrFun c4 4) x).symm)
        · have ei : (auS k σ).i 0 f = σ.i 0 f := congrFun (congrFun c3 0) f
          rw [ei]
          exact g7 f (Nat.lt_of_lt_of_eq hf (c1 0 (by decide)))
  · have eo : o_audit σ (nI k) = (1, nI 0, σ) := by
      unfold o_audit
      rw [show inK 1 100 (nI k) = false from decide_eq_false (fun z => hk ⟨(nI_leI (by decide) (by omega)).mp z.1, (nI_leI (by omega) (by decide)).mp z.2⟩), if_neg (by decide)]
    have e395 : tl (o_audit σ (nI k)) (-20) (-10) (-10) = -20 := tl_1 (by rw [eo])
    by_cases hk0 : 1 ≤ k
    · skip
      refine z_iload_n dL_isCopy_0 rfl ?_
      refine z_if_ne (tgt := 248) dL_isCopy_1 (by decide) (fun h1 => ?_) (fun h1 => absurd h1 (by decide))
      refine z_iload_n dL_isCopy_248 rfl ?_
      refine z_ic ki_1 dL_isCopy_249 ?_
      refine z_icmp_ne (tgt := 377) dL_isCopy_250 (by decide) (fun h250 => ?_) (fun h250 => absurd h250 (by decide))
      refine z_iload_n dL_isCopy_377 rfl ?_
      refine z_ic ki_2 dL_isCopy_378 ?_
      refine z_icmp_ne (tgt := 465) dL_isCopy_379 (by decide) (fun h379 => absurd h379 (fun q => q rfl)) (fun h379 => ?_)
      refine z_iload dL_isCopy_382 rfl ?_
      refine z_bi kb_102 dL_isCopy_384 ?_
      refine z_irem dL_isCopy_386 (by decide) ?_
      rw [e2]
      refine z_istore dL_isCopy_387 (by decide) ?_
      refine z_aload_n dL_isCopy_389 rfl rfl ?_
      refine z_ic ki_4 dL_isCopy_390 ?_
      refine z_iload dL_isCopy_391 rfl ?_
      refine z_ic ki_0 dL_isCopy_393 ?_
      refine z_ic ki_0 dL_isCopy_394 ?_
      refine z_isXQ (dd := mL_copies) dL_isCopy_395 cw_RL_74 rfl ⟨by decide, by decide⟩ (n := 5) (by decide +kernel) (h_audit g hI hB h (nI k) (nI 0) (nI 0)) ⟨⟨by decide, by decide⟩, (by first | exact Nat.zero_le _ | decide | omega), (by first | exact Nat.zero_le _ | decide | omega)⟩ rfl rfl (Nat.le_of_ble_eq_true rfl) (fun M395 hQ395 => ?_)
      rw [e395]
      refine z_istore dL_isCopy_398 (by decide) ?_
      refine z_iload dL_isCopy_400 rfl ?_
      refine z_ic ki_1 dL_isCopy_402 ?_
      refine z_icmp_lt (tgt := 413) dL_isCopy_403 (by decide) (fun h403 => absurd h403 (nI_nlt hk0 (by omega))) (fun h403 => ?_)
      refine z_iload dL_isCopy_406 rfl ?_
      refine z_bi kb_100 dL_isCopy_408 ?_
      refine z_icmp_le (tgt := 428) dL_isCopy_410 (by decide) (fun h410 => absurd h410 (nI_ge (by omega) (by omega))) (fun h410 => ?_)
      refine z_iload dL_isCopy_413 rfl ?_
      refine z_bi kb_m20 dL_isCopy_415 ?_
      refine z_icmp_ne (tgt := 424) dL_isCopy_417 (by decide) (fun h417 => absurd h417 (fun q => q rfl)) (fun h417 => ?_)
      refine z_ic ki_1 dL_isCopy_420 ?_
      refine z_goto (tgt := 464) dL_isCopy_421 (by decide) ?_
      refine z_ireturn dL_isCopy_464 rfl (by first | rfl | exact bI_nar _) ?_
      exact rQ_of (JQ_same hP hR hE (by rw [eo]) hQ395)
    · skip
      refine z_iload_n dL_isCopy_0 rfl ?_
      refine z_if_ne (tgt := 248) dL_isCopy_1 (by decide) (fun h1 => ?_) (fun h1 => absurd h1 (by decide))
      refine z_iload_n dL_isCopy_248 rfl ?_
      refine z_ic ki_1 dL_isCopy_249 ?_
      refine z_icmp_ne (tgt := 377) dL_isCopy_250 (by decide) (fun h250 => ?_) (fun h250 => absurd h250 (by decide))
      refine z_iload_n dL_isCopy_377 rfl ?_
      refine z_ic ki_2 dL_isCopy_378 ?_
      refine z_icmp_ne (tgt := 465) dL_isCopy_379 (by decide) (fun h379 => absurd h379 (fun q => q rfl)) (fun h379 => ?_)
      refine z_iload dL_isCopy_382 rfl ?_
      refine z_bi kb_102 dL_isCopy_384 ?_
      refine z_irem dL_isCopy_386 (by decide) ?_
      rw [e2]
      refine z_istore dL_isCopy_387 (by decide) ?_
      refine z_aload_n dL_isCopy_389 rfl rfl ?_
      refine z_ic ki_4 dL_isCopy_390 ?_
      refine z_iload dL_isCopy_391 rfl ?_
      refine z_ic ki_0 dL_isCopy_393 ?_
      refine z_ic ki_0 dL_isCopy_394 ?_
      refine z_isXQ (dd := mL_copies) dL_isCopy_395 cw_RL_74 rfl ⟨by decide, by decide⟩ (n := 5) (by decide +kernel) (h_audit g hI hB h (nI k) (nI 0) (nI 0)) ⟨⟨by decide, by decide⟩, (by first | exact Nat.zero_le _ | decide | omega), (by first | exact Nat.zero_le _ | decide | omega)⟩ rfl rfl (Nat.le_of_ble_eq_true rfl) (fun M395 hQ395 => ?_)
      rw [e395]
      refine z_istore dL_isCopy_398 (by decide) ?_
      refine z_iload dL_isCopy_400 rfl ?_
      refine z_ic ki_1 dL_isCopy_402 ?_
      refine z_icmp_lt (tgt := 413) dL_isCopy_403 (by decide) (fun h403 => ?_) (fun h403 => absurd (nI_lt (by omega) (by decide)) h403)
      refine z_iload dL_isCopy_413 rfl ?_
      refine z_bi kb_m20 dL_isCopy_415 ?_
      refine z_icmp_ne (tgt := 424) dL_isCopy_417 (by decide) (fun h417 => absurd h417 (fun q => q rfl)) (fun h417 => ?_)
      refine z_ic ki_1 dL_isCopy_420 ?_
      refine z_goto (tgt := 464) dL_isCopy_421 (by decide) ?_
      refine z_ireturn dL_isCopy_464 rfl (by first | rfl | exact bI_nar _) ?_
      exact rQ_of (JQ_same hP hR hE (by rw [eo]) hQ395)
theorem c_L_isCopy3 (hI : INV B σ) (hB : B < 2147483648) (hP : PI σ dm tg) (hR : LR σ ar dm tg) (hE : LE σ ar 1000) (h : WA g A0 σ ar M) {one two three : Nat} : con g mL_isCopy 0 0 [.ref (A0 0 0), .ref (A0 20 3), .int (nI 3), .int (nI one), .int (nI two), .int (nI three)] M (rQ (some (.int (nI 1))) (JQ g A0 B)) := by
  refine con_i ?_ (by decide) rfl rfl (by simp [lv_args, Value.category]) (by simp [lv_args, lnd, Value.category])
  have hR2 := hR
  obtain ⟨g1, ⟨g2, g3, g4, g5, g6⟩, g7, g8, g9⟩ := hR2
  have hu60 := un_60 hI g1
  have hul := unn_le σ σ.un
  have hl3 := lkn_3 hP.1 σ.un
  obtain ⟨i1, s1⟩ := rp_INV hI
  have hlk := rp_lk σ
  have htw := rp_twice σ
  have hP1 := PI_rpS hP σ.un
  have r1 := rpS_same σ σ.un
  have hrep : ∀ M', WA g A0 σ ar M' → con g mX5_replicate 0 0 [.ref (A0 0 0)] M' (rQ (some (.int (nI (rpN σ σ.un)))) (WA g A0 (rpS σ σ.un) ar)) := fun M' hw => a_replicate g hI hB hw
  generalize rpN σ σ.un = p at hlk hrep
  generalize rpS σ σ.un = S at i1 s1 hlk htw hP1 r1 hrep
  obtain ⟨i2, s2⟩ := rp_INV i1
  have hP2 := PI_rpS hP1 S.un
  have r2 := rpS_same S S.un
  refine z_iload_n dL_isCopy_0 rfl ?_
  refine z_if_ne (tgt := 248) dL_isCopy_1 (by decide) (fun h1 => ?_) (fun h1 => absurd h1 (by decide))
  refine z_iload_n dL_isCopy_248 rfl ?_
  refine z_ic ki_1 dL_isCopy_249 ?_
  refine z_icmp_ne (tgt := 377) dL_isCopy_250 (by decide) (fun h250 => ?_) (fun h250 => absurd h250 (by decide))
  refine z_iload_n dL_isCopy_377 rfl ?_
  refine z_ic ki_2 dL_isCopy_378 ?_
  refine z_icmp_ne (tgt := 465) dL_isCopy_379 (by decide) (fun h379 => ?_) (fun h379 => absurd h379 (by decide))
  refine z_aload_n dL_isCopy_465 rfl rfl ?_
  refine z_ivW dL_isCopy_466 cv_RL_87 h (a_lacking g hI h) ⟨⟨by decide, by decide⟩, (by first | exact Nat.zero_le _ | decide | omega), (by first | exact Nat.zero_le _ | decide | omega)⟩ rfl rfl (Nat.le_of_ble_eq_true rfl) (fun M466 hQ466 => ?_)
  refine z_istore dL_isCopy_469 (by decide) ?_
  refine z_aload_n dL_isCopy_471 rfl rfl ?_
  refine z_ivW dL_isCopy_472 cv_RL_105 hQ466 (hrep _ hQ466) ⟨⟨by decide, by decide⟩, (by first | exact Nat.zero_le _ | decide | omega), (by first | exact Nat.zero_le _ | decide | omega)⟩ rfl rfl (Nat.le_of_ble_eq_true rfl) (fun M472 hQ472 => ?_)
  refine z_istore dL_isCopy_475 (by decide) ?_
  refine z_iload dL_isCopy_477 rfl ?_
  refine z_if_lt (tgt := 505) dL_isCopy_479 (by decide) (fun h479 => absurd h479 (nI_pos (by omega))) (fun h479 => ?_)
  refine z_aload_n dL_isCopy_482 rfl rfl ?_
  refine z_ivW dL_isCopy_483 cv_RL_87 hQ472 (a_lacking g i1 hQ472) ⟨⟨by decide, by decide⟩, (by first | exact Nat.zero_le _ | decide | omega), (by first | exact Nat.zero_le _ | decide | omega)⟩ rfl rfl (Nat.le_of_ble_eq_true rfl) (fun M483 hQ483 => ?_)
  refine z_iload dL_isCopy_486 rfl ?_
  refine z_iload dL_isCopy_488 rfl ?_
  refine z_isub dL_isCopy_490 ?_
  refine z_icmp_ne (tgt := 505) dL_isCopy_491 (by decide) (fun h491 => absurd h491 (fun q => q (by rw [pk_sub (by omega)]; exact congrArg nI (by omega)))) (fun h491 => ?_)
  refine z_aload_n dL_isCopy_494 rfl rfl ?_
  refine z_ivW dL_isCopy_495 cv_RL_105 hQ483 (a_replicate g i1 hB hQ483) ⟨⟨by decide, by decide⟩, (by first | exact Nat.zero_le _ | decide | omega), (by first | exact Nat.zero_le _ | decide | omega)⟩ rfl rfl (Nat.le_of_ble_eq_true rfl) (fun M495 hQ495 => ?_)
  rw [htw]
  refine z_if_ne (tgt := 505) dL_isCopy_498 (by decide) (fun h498 => absurd h498 (by decide)) (fun h498 => ?_)
  refine z_ic ki_1 dL_isCopy_501 ?_
  refine z_goto (tgt := 506) dL_isCopy_502 (by decide) ?_
  refine z_ireturn dL_isCopy_506 rfl (by first | rfl | exact bI_nar _) ?_
  have hs' : SO σ (rpS S S.un) := by
    have k1 := SO_st8 s1
    have k2 := SO_st8 s2
    exact ⟨k2.1.trans k1.1, fun j => ⟨(k2.2.1 j).1.trans (k1.2.1 j).1, (k2.2.1 j).2.1.trans (k1.2.1 j).2.1, (k2.2.1 j).2.2.1.trans (k1.2.1 j).2.2.1, (k2.2.1 j).2.2.2.trans (k1.2.1 j).2.2.2⟩, fun j => ⟨(k2.2.2.1 j).1.trans (k1.2.2.1 j).1, (k2.2.2.1 j).2.trans (k1.2.2.1 j).2⟩, fun j => (k2.2.2.2 j).trans (k1.2.2.2 j)⟩
  have en : (rpS S S.un).fo = σ.fo := (congrFun r2.1 0).trans (congrFun r1.1 0)
  refine rQ_of (JQ_so (o := (0, nI 0, rpS S S.un)) (dm' := dm) (tg' := tg) hR hE hs' hP2 rfl ⟨rpS S S.un, i2.up (Nat.le_add_right _ _), sim.refl _, hQ495⟩ ⟨?_, rfl, ?_, g5, g6⟩ (fun f hf => ?_) (fun j hj => ⟨rfl, rfl, rfl⟩) (fun w => rfl) (fun w => rfl))
  · rw [g2, en]
  · rw [g4]
    exact bset_ext 4 (fun x _ => ((congrFun (congrFun r2.2.2.2.1 4) x).trans (congrFun (congrFun r1.2.2.2.1 4) x)).symm)
  · have ei : (rpS S S.un).i 0 f = σ.i 0 f := (congrFun (congrFun r2.2.2.1 0) f).trans (congrFun (congrFun r1.2.2.1 0) f)
    rw [ei]
    rw [en] at hf
    exact g7 f hf
end STEPL
