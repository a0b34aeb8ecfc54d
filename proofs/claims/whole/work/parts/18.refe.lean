/-! the calls on objects and versions, the reference's part -/
def cont (σ : ST) (u : Nat) : Int32 := isum (fun w => σ.i 2 (σ.a 3 w)) 0 (chL σ u)
def rdv (σ : ST) (u : Nat) : Int32 := isum (fun w => gval σ (σ.a 3 w)) 0 (chL σ u)
def inC (c : Int32) : Bool := decide (nI 0 ≤ c ∧ c ≤ 999999)
def o_versions (σ : ST) (o : Int32) : OP := if inR σ.ob o = true then (0, bset (fun k => σ.b 0 (10 * tN o + k)) 10, σ) else (1, nI 0, σ)
def o_unitOf (σ : ST) (o v : Int32) : OP := if isV σ o v = true then (0, nI (σ.a 3 (10 * tN o + tN v)), σ) else (1, nI 0, σ)
def o_read (σ : ST) (o v : Int32) : OP := if isV σ o v = true then (if allG σ (chL σ (10 * tN o + tN v)) = true then (0, rdv σ (10 * tN o + tN v), σ) else (2, nI 0, σ)) else (1, nI 0, σ)
def riskB (σ : ST) (r : Int32) (o : Nat) : Bool := decide (r ≤ σ.i 0 (σ.a 2 (latn σ o 10)))
def o_atRisk (σ : ST) (r : Int32) : OP := if inK 0 100 r = true then (0, bset (riskB σ r) σ.ob, σ) else (1, nI 0, σ)
def o_deposit (σ : ST) (f c k : Int32) : OP := if (inC c && inK 1 3 k) = true then (if inR σ.fo f = true then (if σ.ob = 10 then (3, nI 0, σ) else (0, nI σ.ob, (adR (σ.sa 0 σ.ob (tN k)) σ.ob (tN f) 0 false c).sn 1 (σ.ob + 1))) else (2, nI 0, σ)) else (1, nI 0, σ)
def rvV (σ : ST) (u : Nat) (c : Int32) (d : Bool) : Int32 := if d = true then c - cont σ u else c
def o_revise (σ : ST) (o c : Int32) (d : Bool) : OP := if inC c = true then (if inR σ.ob o = true then (if σ.a 1 (tN o) = 10 then (3, nI 0, σ) else (0, nI (σ.a 1 (tN o)), adR σ (tN o) (σ.a 2 (latn σ (tN o) 10)) (latn σ (tN o) 10) d (rvV σ (latn σ (tN o) 10) c d))) else (2, nI 0, σ)) else (1, nI 0, σ)
def cvOk (σ : ST) (o f u : Nat) : Bool := !decide (σ.a 2 u = f) && (!decide (way σ (σ.a 2 u) f = -1) && (allG σ (chL σ u) && decide (σ.a 1 o < 10)))
def rem1k (s : Int32) : Int32 := if s - s / nI 1000 * nI 1000 < 0 then s - s / nI 1000 * nI 1000 + nI 1000 else s - s / nI 1000 * nI 1000
def cvC (s w : Int32) : Int32 := nI 1000 * rem1k s + (w / nI 100 - w / nI 100 / nI 1000 * nI 1000)
def o_convert (σ : ST) (o f : Int32) : OP := if (inR σ.ob o && inR σ.fo f) = true then (if cvOk σ (tN o) (tN f) (latn σ (tN o) 10) = true then (0, nI (σ.a 1 (tN o)), adR σ (tN o) (tN f) (latn σ (tN o) 10) false (cvC (rdv σ (latn σ (tN o) 10)) (way σ (σ.a 2 (latn σ (tN o) 10)) (tN f)))) else (2, nI 0, σ)) else (1, nI 0, σ)
def clC (u : Nat) : Nat → ST → ST
  | 0, σ => σ
  | n + 1, σ => (clC u n σ).sc u n false
def clU (σ : ST) (u : Nat) : ST := clC u 4 (σ.sb 1 u false)
/-- the units that nobody needs any more are removed, of the first n -/
def pgS (σ : ST) : Nat → ST
  | 0 => σ
  | n + 1 => if (pgS σ n).b 1 n = true ∧ ndd σ n 100 = false then clU (pgS σ n) n else pgS σ n
def pgN (σ : ST) : Nat → Nat
  | 0 => 0
  | n + 1 => pgN σ n + (if (pgS σ n).b 1 n = true ∧ ndd σ n 100 = false then 1 else 0)
def o_purge (σ : ST) (o v : Int32) : OP := if isV σ o v = true then (if many σ (tN o) 10 = 1 then (2, nI 0, σ) else (0, nI (pgN (σ.sb 0 (10 * tN o + tN v) false) σ.un), pgS (σ.sb 0 (10 * tN o + tN v) false) σ.un)) else (1, nI 0, σ)
/-- what the reference's calls rest on -/
def RI (σ : ST) : Prop := WF σ ∧ σ.fo ≤ 8 ∧ (∀ o, o < σ.ob → hasV σ o) ∧ (∀ u, u < 100 → σ.a 5 u < 2 ^ 30) ∧ (∀ o, o < 10 → σ.a 0 o < 2 ^ 30) ∧ (∀ v, vok σ v → σ.a 2 v < σ.fo) ∧ (∀ o, o < σ.ob → σ.a 1 o < 10 → σ.un < 100) ∧ (σ.ob < 10 → σ.un < 100 ∧ σ.a 1 σ.ob = 0) ∧ σ.la ≤ 400
theorem isV_of {σ : ST} (hw : WF σ) {o v : Int32} (h : isV σ o v = true) : (o = nI (tN o) ∧ tN o < σ.ob) ∧ (v = nI (tN v) ∧ tN v < 10) ∧ σ.b 0 (10 * tN o + tN v) = true ∧ vok σ (10 * tN o + tN v) := by
  unfold isV at h
  rw [Bool.and_eq_true, Bool.and_eq_true] at h
  have h1 := hw.1.1
  exact ⟨inR_of (by omega) h.1, inR_of (by omega) h.2.1, h.2.2, hw.2.2.2 _ h.2.2⟩
theorem adU_same (σ : ST) (d : Bool) (v : Int32) : (∀ i, i ≠ 2 → (adU σ d v).n i = σ.n i) ∧ (adU σ d v).2.1 = σ.2.1 := by
  unfold adU
  cases ufn σ d v σ.un with
  | none => exact ⟨fun i hi => f1_n hi, rfl⟩
  | some f => exact ⟨fun _ _ => rfl, rfl⟩
theorem adP_n (σ : ST) (w : Nat) (d : Bool) (v : Int32) (i : Nat) (hi : i ≠ 2) : (adP σ w d v).n i = σ.n i := by
  unfold adP
  cases ufn σ d v σ.un with
  | none => exact (congrFun (plcs_same _ _ _ _).1 i).trans ((adU_same σ d v).1 i hi)
  | some f => exact (congrFun (plG_same _ _).1 i).trans ((adU_same σ d v).1 i hi)
theorem adR_ob (σ : ST) (o of b : Nat) (d : Bool) (v : Int32) : (adR σ o of b d v).ob = σ.ob := adP_n σ (σ.a 0 o) d v 1 (by decide)
theorem chf_congr {σ τ : ST} (ha : τ.2.1 = σ.2.1) (hb : τ.b 2 = σ.b 2) : ∀ n v, chf τ n v = chf σ n v
  | 0, v => rfl
  | n + 1, v => by
    have h3 : τ.a 3 v = σ.a 3 v := by unfold ST.a; rw [ha]
    have h4 : τ.a 4 v = σ.a 4 v := by unfold ST.a; rw [ha]
    unfold chf
    rw [h3, h4, hb, chf_congr ha hb n]
theorem ndd_congr {σ τ : ST} (ha : τ.2.1 = σ.2.1) (hb : τ.b 2 = σ.b 2) (h0 : τ.b 0 = σ.b 0) (u : Nat) : ∀ n, ndd τ u n = ndd σ u n
  | 0 => rfl
  | n + 1 => by
    unfold ndd
    rw [ndd_congr ha hb h0 u n, h0, show chL τ n = chL σ n from chf_congr ha hb _ _]
    unfold ST.a
    rw [ha]
theorem clC_same (u : Nat) : ∀ (n : Nat) (σ : ST), (clC u n σ).1 = σ.1 ∧ (clC u n σ).2.1 = σ.2.1 ∧ (clC u n σ).2.2.1 = σ.2.2.1 ∧ (clC u n σ).2.2.2.1 = σ.2.2.2.1 ∧ (clC u n σ).2.2.2.2.1 = σ.2.2.2.2.1 ∧ (clC u n σ).2.2.2.2.2.1 = σ.2.2.2.2.2.1
  | 0, σ => ⟨rfl, rfl, rfl, rfl, rfl, rfl⟩
  | n + 1, σ => clC_same u n σ
theorem pgS_same (σ : ST) : ∀ n, (pgS σ n).1 = σ.1 ∧ (pgS σ n).2.1 = σ.2.1 ∧ (pgS σ n).2.2.1 = σ.2.2.1 ∧ (∀ i, i ≠ 1 → (pgS σ n).b i = σ.b i) ∧ (pgS σ n).2.2.2.2.1 = σ.2.2.2.2.1 ∧ (pgS σ n).2.2.2.2.2.1 = σ.2.2.2.2.2.1
  | 0 => ⟨rfl, rfl, rfl, fun _ _ => rfl, rfl, rfl⟩
  | n + 1 => by
    obtain ⟨h1, h2, h3, h4, h5, h6⟩ := pgS_same σ n
    unfold pgS
    split
    · obtain ⟨g1, g2, g3, g4, g5, g6⟩ := clC_same n 4 ((pgS σ n).sb 1 n false)
      refine ⟨g1.trans h1, g2.trans h2, g3.trans h3, fun i hi => ?_, g5.trans h5, g6.trans h6⟩
      have e : (clU (pgS σ n) n).b i = ((pgS σ n).sb 1 n false).b i := by unfold ST.b clU; rw [g4]
      rw [e]
      exact (f2_a hi).trans (h4 i hi)
    · exact ⟨h1, h2, h3, h4, h5, h6⟩
theorem WF.pb0 {σ : ST} (h : WF σ) (v : Nat) : WF (σ.sb 0 v false) := by
  refine ⟨h.1, h.2.1, h.2.2.1, fun w hw => h.2.2.2 w ?_⟩
  have e : f2 σ.2.2.2.1 0 v false 0 w = true := hw
  unfold f2 at e
  by_cases hq : w = v
  · rw [if_pos ⟨rfl, hq⟩] at e
    cases e
  · rw [if_neg (fun q => hq q.2)] at e
    exact e
section REFE
variable (g : GG) {A : Nat → Nat → Nat} {σ ρ : ST} {x : XT} {M : Mem}
theorem c_X6_versions (hW : W2 g A σ ρ x M) (hw : WF ρ) (o : Int32) : con g mX6_versions 0 0 [.ref (A 20 0), .int o] M (rQ (some (.int (o_versions ρ o).2.1)) (W2 g A σ (o_versions ρ o).2.2 (x.sthr (nI (o_versions ρ o).1)))) := by
  refine con_i ?_ (by decide) rfl rfl (by simp [lv_args, Value.category]) (by simp [lv_args, lnd, Value.category])
  have hm := hW.m
  have hob := hw.1.1
  have loop : ∀ {n : Nat} {M' : Mem}, n < 10 → W2 g A σ ρ (x.sthr (nI 0)) M' → ∀ j, j ≤ 10 → ∀ x2 x3, x2 = bset (fun k => ρ.b 0 (10 * n + k)) j → x3 = nI j → tri g mX6_versions 0 0 (rQ (some (.int (bset (fun k => ρ.b 0 (10 * n + k)) 10))) (W2 g A σ ρ (x.sthr (nI 0)))) M' 26 [(0, .ref (A 20 0)), (1, .int (nI n)), (2, .int x2), (3, .int x3)] [] := by
    intro n M' hn h
    have hm' := h.m
    have w7 := h.r7
    refine lp_up 10 ?_ ?_
    · intro x2 x3 e2 e3
      subst e3
      refine z_iload_n dX6_versions_26 rfl ?_
      refine z_bi kb_10 dX6_versions_27 ?_
      refine z_icmp_ge (tgt := 62) dX6_versions_29 (by decide) (fun h29 => ?_) (fun h29 => absurd (nI_le (by omega) (by omega)) h29)
      refine z_iload_n dX6_versions_62 rfl ?_
      refine z_ireturn dX6_versions_63 rfl (by first | rfl | exact bI_nar _) ?_
      rw [e2]
      exact rQ_of h
    · intro j hj ih x2 x3 e2 e3
      subst e3
      refine z_iload_n dX6_versions_26 rfl ?_
      refine z_bi kb_10 dX6_versions_27 ?_
      refine z_icmp_ge (tgt := 62) dX6_versions_29 (by decide) (fun h29 => absurd h29 (nI_ge hj (by omega))) (fun h29 => ?_)
      refine z_iload_n dX6_versions_32 rfl ?_
      refine z_aload_n dX6_versions_33 rfl rfl ?_
      refine z_getfield dX6_versions_34 fg_RX6_25 (by assumption) rfl ?_
      refine z_bi kb_10 dX6_versions_37 ?_
      refine z_iload_n dX6_versions_39 rfl ?_
      refine z_imul dX6_versions_40 ?_
      refine z_iload_n dX6_versions_41 rfl ?_
      refine z_iadd dX6_versions_42 ?_
      refine z_zaload dX6_versions_43 w7 (ix10 n j) (by omega) (by decide) ?_
      refine z_if_eq (tgt := 53) dX6_versions_44 (by decide) (fun h44 => ?_) (fun h44 => ?_)
      · refine z_ic ki_0 dX6_versions_53 ?_
        refine z_ior dX6_versions_54 ?_
        refine z_istore_n dX6_versions_55 (by decide) ?_
        refine z_inc ki_1 dX6_versions_56 rfl (by decide) ?_
        refine z_goto (tgt := 26) dX6_versions_59 (by decide) ?_
        exact ih _ _ (by rw [e2, bset, if_neg (nt h44)]) (nI_add j 1)
      · refine z_ic ki_1 dX6_versions_47 ?_
        refine z_iload_n dX6_versions_48 rfl ?_
        refine z_ishl dX6_versions_49 ?_
        refine z_goto (tgt := 54) dX6_versions_50 (by decide) ?_
        refine z_ior dX6_versions_54 ?_
        refine z_istore_n dX6_versions_55 (by decide) ?_
        refine z_inc ki_1 dX6_versions_56 rfl (by decide) ?_
        refine z_goto (tgt := 26) dX6_versions_59 (by decide) ?_
        exact ih _ _ (by rw [e2, bset, if_pos (yt h44)]) (nI_add j 1)
  refine z_aload_n dX6_versions_0 rfl rfl ?_
  refine z_aload_n dX6_versions_1 rfl rfl ?_
  refine z_iload_n dX6_versions_2 rfl ?_
  refine z_ivI dX6_versions_3 cv_RX6_110 (by assumption) (c_X6_isObject g hW o) ⟨⟨by decide, by decide⟩, (by first | exact Nat.zero_le _ | decide | omega), (by first | exact Nat.zero_le _ | decide | omega)⟩ rfl rfl (Nat.le_of_ble_eq_true rfl) ?_
  refine z_if_eq (tgt := 13) dX6_versions_6 (by decide) (fun h6 => ?_) (fun h6 => ?_)
  · refine z_ic ki_1 dX6_versions_13 ?_
    refine z_ivQ dX6_versions_14 cv_RX6_73 hm (c_X6_fails g hW _) ⟨⟨by decide, by decide⟩, (by first | exact Nat.zero_le _ | decide | omega), (by first | exact Nat.zero_le _ | decide | omega)⟩ rfl rfl (Nat.le_of_ble_eq_true rfl) (fun M14 hQ14 => ?_)
    refine z_if_eq (tgt := 22) dX6_versions_17 (by decide) (fun h17 => absurd h17 (by decide)) (fun h17 => ?_)
    refine z_ic ki_0 dX6_versions_20 ?_
    refine z_ireturn dX6_versions_21 rfl (by first | rfl | exact bI_nar _) ?_
    have e : o_versions ρ o = (1, nI 0, ρ) := by
      unfold o_versions
      rw [if_neg (nt h6 : ¬ inR ρ.ob o = true)]
    rw [e]
    exact rQ_of hQ14
  · refine z_ic ki_0 dX6_versions_9 ?_
    refine z_goto (tgt := 14) dX6_versions_10 (by decide) ?_
    refine z_ivQ dX6_versions_14 cv_RX6_73 hm (c_X6_fails g hW _) ⟨⟨by decide, by decide⟩, (by first | exact Nat.zero_le _ | decide | omega), (by first | exact Nat.zero_le _ | decide | omega)⟩ rfl rfl (Nat.le_of_ble_eq_true rfl) (fun M14 hQ14 => ?_)
    refine z_if_eq (tgt := 22) dX6_versions_17 (by decide) (fun h17 => ?_) (fun h17 => absurd rfl h17)
    refine z_ic ki_0 dX6_versions_22 ?_
    refine z_istore_n dX6_versions_23 (by decide) ?_
    refine z_ic ki_0 dX6_versions_24 ?_
    refine z_istore_n dX6_versions_25 (by decide) ?_
    obtain ⟨e1, l1⟩ := inR_of (by omega) (yt h6 : inR ρ.ob o = true)
    have e : o_versions ρ o = (0, bset (fun k => ρ.b 0 (10 * tN o + k)) 10, ρ) := by
      unfold o_versions
      rw [if_pos (yt h6 : inR ρ.ob o = true)]
    rw [e]
    have h9 := loop (show tN o < 10 by omega) hQ14 0 (by omega) _ _ rfl rfl
    rw [← e1] at h9
    exact h9
theorem c_X6_unitOf (hW : W2 g A σ ρ x M) (hw : WF ρ) (o v : Int32) : con g mX6_unitOf 0 0 [.ref (A 20 0), .int o, .int v] M (rQ (some (.int (o_unitOf ρ o v).2.1)) (W2 g A σ (o_unitOf ρ o v).2.2 (x.sthr (nI (o_unitOf ρ o v).1)))) := by
  refine con_i ?_ (by decide) rfl rfl (by simp [lv_args, Value.category]) (by simp [lv_args, lnd, Value.category])
  have hm := hW.m
  have hob := hw.1.1
  refine z_aload_n dX6_unitOf_0 rfl rfl ?_
  refine z_aload_n dX6_unitOf_1 rfl rfl ?_
  refine z_iload_n dX6_unitOf_2 rfl ?_
  refine z_iload_n dX6_unitOf_3 rfl ?_
  refine z_ivI dX6_unitOf_4 cv_RX6_143 (by assumption) (c_X6_isVersion g hW hw o v) ⟨⟨by decide, by decide⟩, (by first | exact Nat.zero_le _ | decide | omega), (by first | exact Nat.zero_le _ | decide | omega)⟩ rfl rfl (Nat.le_of_ble_eq_true rfl) ?_
  refine z_if_eq (tgt := 14) dX6_unitOf_7 (by decide) (fun h7 => ?_) (fun h7 => ?_)
  · refine z_ic ki_1 dX6_unitOf_14 ?_
    refine z_ivQ dX6_unitOf_15 cv_RX6_73 hm (c_X6_fails g hW _) ⟨⟨by decide, by decide⟩, (by first | exact Nat.zero_le _ | decide | omega), (by first | exact Nat.zero_le _ | decide | omega)⟩ rfl rfl (Nat.le_of_ble_eq_true rfl) (fun M15 hQ15 => ?_)
    refine z_if_eq (tgt := 25) dX6_unitOf_18 (by decide) (fun h18 => absurd h18 (by decide)) (fun h18 => ?_)
    refine z_ic ki_0 dX6_unitOf_21 ?_
    refine z_goto (tgt := 36) dX6_unitOf_22 (by decide) ?_
    refine z_ireturn dX6_unitOf_36 rfl (by first | rfl | exact bI_nar _) ?_
    have e : o_unitOf ρ o v = (1, nI 0, ρ) := by
      unfold o_unitOf
      rw [if_neg (nt h7)]
    rw [e]
    exact rQ_of hQ15
  · refine z_ic ki_0 dX6_unitOf_10 ?_
    refine z_goto (tgt := 15) dX6_unitOf_11 (by decide) ?_
    refine z_ivQ dX6_unitOf_15 cv_RX6_73 hm (c_X6_fails g hW _) ⟨⟨by decide, by decide⟩, (by first | exact Nat.zero_le _ | decide | omega), (by first | exact Nat.zero_le _ | decide | omega)⟩ rfl rfl (Nat.le_of_ble_eq_true rfl) (fun M15 hQ15 => ?_)
    refine z_if_eq (tgt := 25) dX6_unitOf_18 (by decide) (fun h18 => ?_) (fun h18 => absurd rfl h18)
    have hm1 := hQ15.m
    have w9 := hQ15.r9
    obtain ⟨⟨e1, l1⟩, ⟨e2, l2⟩, hb, hv⟩ := isV_of hw (yt h7)
    have ix := ix10 (tN o) (tN v)
    rw [← e1, ← e2] at ix
    have e : o_unitOf ρ o v = (0, nI (ρ.a 3 (10 * tN o + tN v)), ρ) := by
      unfold o_unitOf
      rw [if_pos (yt h7)]
    rw [e]
    refine z_aload_n dX6_unitOf_25 rfl rfl ?_
    refine z_getfield dX6_unitOf_26 fg_RX6_32 hm1 rfl ?_
    refine z_bi kb_10 dX6_unitOf_29 ?_
    refine z_iload_n dX6_unitOf_31 rfl ?_
    refine z_imul dX6_unitOf_32 ?_
    refine z_iload_n dX6_unitOf_33 rfl ?_
    refine z_iadd dX6_unitOf_34 ?_
    refine z_iaload dX6_unitOf_35 w9 ix (by omega) (by decide) ?_
    refine z_ireturn dX6_unitOf_36 rfl (by first | rfl | exact bI_nar _) ?_
    exact rQ_of hQ15
theorem c_X6_read (hW : W2 g A σ ρ x M) (hw : WF ρ) (hb : rbok ρ x) (o v : Int32) : con g mX6_read 0 0 [.ref (A 20 0), .int o, .int v] M (rQ (some (.int (o_read ρ o v).2.1)) (W2 g A σ (o_read ρ o v).2.2 (x.sthr (nI (o_read ρ o v).1)))) := by
  refine con_i ?_ (by decide) rfl rfl (by simp [lv_args, Value.category]) (by simp [lv_args, lnd, Value.category])
  have hm := hW.m
  have hob := hw.1.1
  refine z_aload_n dX6_read_0 rfl rfl ?_
  refine z_iload_n dX6_read_1 rfl ?_
  refine z_iload_n dX6_read_2 rfl ?_
  refine z_ivI dX6_read_3 cv_RX6_143 (by assumption) (c_X6_isVersion g hW hw o v) ⟨⟨by decide, by decide⟩, (by first | exact Nat.zero_le _ | decide | omega), (by first | exact Nat.zero_le _ | decide | omega)⟩ rfl rfl (Nat.le_of_ble_eq_true rfl) ?_
  refine z_istore_n dX6_read_6 (by decide) ?_
  refine z_aload_n dX6_read_7 rfl rfl ?_
  refine z_iload_n dX6_read_8 rfl ?_
  refine z_if_ne (tgt := 16) dX6_read_9 (by decide) (fun h9 => ?_) (fun h9 => ?_)
  · obtain ⟨⟨e1, l1⟩, ⟨e2, l2⟩, hb0, hv⟩ := isV_of hw (yt h9)
    have ix := ix10 (tN o) (tN v)
    rw [← e1, ← e2] at ix
    refine z_aload_n dX6_read_16 rfl rfl ?_
    refine z_bi kb_10 dX6_read_17 ?_
    refine z_iload_n dX6_read_19 rfl ?_
    refine z_imul dX6_read_20 ?_
    refine z_iload_n dX6_read_21 rfl ?_
    refine z_iadd dX6_read_22 ?_
    rw [ix]
    refine z_ivI dX6_read_23 cv_RX6_137 (by assumption) (c_X6_canRead g hW hw hb hv) ⟨⟨by decide, by decide⟩, (by first | exact Nat.zero_le _ | decide | omega), (by first | exact Nat.zero_le _ | decide | omega)⟩ rfl rfl (Nat.le_of_ble_eq_true rfl) ?_
    refine z_if_eq (tgt := 33) dX6_read_26 (by decide) (fun h26 => ?_) (fun h26 => ?_)
    · refine z_ic ki_2 dX6_read_33 ?_
      refine z_ivQ dX6_read_34 cv_RX6_73 hm (c_X6_fails g hW _) ⟨⟨by decide, by decide⟩, (by first | exact Nat.zero_le _ | decide | omega), (by first | exact Nat.zero_le _ | decide | omega)⟩ rfl rfl (Nat.le_of_ble_eq_true rfl) (fun M34 hQ34 => ?_)
      refine z_if_eq (tgt := 44) dX6_read_37 (by decide) (fun h37 => absurd h37 (by decide)) (fun h37 => ?_)
      refine z_ic ki_0 dX6_read_40 ?_
      refine z_goto (tgt := 54) dX6_read_41 (by decide) ?_
      refine z_ireturn dX6_read_54 rfl (by first | rfl | exact bI_nar _) ?_
      have e : o_read ρ o v = (2, nI 0, ρ) := by
        unfold o_read
        rw [if_pos (yt h9), if_neg (nt h26)]
      rw [e]
      exact rQ_of hQ34
    · refine z_ic ki_0 dX6_read_29 ?_
      refine z_goto (tgt := 34) dX6_read_30 (by decide) ?_
      refine z_ivQ dX6_read_34 cv_RX6_73 hm (c_X6_fails g hW _) ⟨⟨by decide, by decide⟩, (by first | exact Nat.zero_le _ | decide | omega), (by first | exact Nat.zero_le _ | decide | omega)⟩ rfl rfl (Nat.le_of_ble_eq_true rfl) (fun M34 hQ34 => ?_)
      refine z_if_eq (tgt := 44) dX6_read_37 (by decide) (fun h37 => ?_) (fun h37 => absurd rfl h37)
      have hm1 := hQ34.m
      have e : o_read ρ o v = (0, rdv ρ (10 * tN o + tN v), ρ) := by
        unfold o_read
        rw [if_pos (yt h9), if_pos (yt h26)]
      rw [e]
      refine z_aload_n dX6_read_44 rfl rfl ?_
      refine z_bi kb_10 dX6_read_45 ?_
      refine z_iload_n dX6_read_47 rfl ?_
      refine z_imul dX6_read_48 ?_
      refine z_iload_n dX6_read_49 rfl ?_
      refine z_iadd dX6_read_50 ?_
      rw [ix]
      refine z_ivI dX6_read_51 cv_RX6_140 hm1 (c_X6_reads g hQ34 hw hb hv (yt h26)) ⟨⟨by decide, by decide⟩, (by first | exact Nat.zero_le _ | decide | omega), (by first | exact Nat.zero_le _ | decide | omega)⟩ rfl rfl (Nat.le_of_ble_eq_true rfl) ?_
      refine z_ireturn dX6_read_54 rfl (by first | rfl | exact bI_nar _) ?_
      exact rQ_of hQ34
  · refine z_ic ki_1 dX6_read_12 ?_
    refine z_goto (tgt := 34) dX6_read_13 (by decide) ?_
    refine z_ivQ dX6_read_34 cv_RX6_73 hm (c_X6_fails g hW _) ⟨⟨by decide, by decide⟩, (by first | exact Nat.zero_le _ | decide | omega), (by first | exact Nat.zero_le _ | decide | omega)⟩ rfl rfl (Nat.le_of_ble_eq_true rfl) (fun M34 hQ34 => ?_)
    refine z_if_eq (tgt := 44) dX6_read_37 (by decide) (fun h37 => absurd h37 (by decide)) (fun h37 => ?_)
    refine z_ic ki_0 dX6_read_40 ?_
    refine z_goto (tgt := 54) dX6_read_41 (by decide) ?_
    refine z_ireturn dX6_read_54 rfl (by first | rfl | exact bI_nar _) ?_
    have e : o_read ρ o v = (1, nI 0, ρ) := by
      unfold o_read
      rw [if_neg (nt h9)]
    rw [e]
    exact rQ_of hQ34
theorem c_X6_atRisk (hW : W2 g A σ ρ x M) (hi : RI ρ) (r : Int32) : con g mX6_atRisk 0 0 [.ref (A 20 0), .int r] M (rQ (some (.int (o_atRisk ρ r).2.1)) (W2 g A σ (o_atRisk ρ r).2.2 (x.sthr (nI (o_atRisk ρ r).1)))) := by
  refine con_i ?_ (by decide) rfl rfl (by simp [lv_args, Value.category]) (by simp [lv_args, lnd, Value.category])
  have hm := hW.m
  have hw := hi.1
  have hob := hw.1.1
  have loop : ∀ {M' : Mem}, W2 g A σ ρ (x.sthr (nI 0)) M' → ∀ j, j ≤ ρ.ob → ∀ x2 x3, x2 = bset (riskB ρ r) j → x3 = nI j → tri g mX6_atRisk 0 0 (rQ (some (.int (bset (riskB ρ r) ρ.ob))) (W2 g A σ ρ (x.sthr (nI 0)))) M' 28 [(0, .ref (A 20 0)), (1, .int r), (2, .int x2), (3, .int x3)] [] := by
    intro M' h
    have hm' := h.m
    have w1 := h.r1
    have w8 := h.r8
    refine lp_up ρ.ob ?_ ?_
    · intro x2 x3 e2 e3
      subst e3
      refine z_iload_n dX6_atRisk_28 rfl ?_
      refine z_aload_n dX6_atRisk_29 rfl rfl ?_
      refine z_getfield dX6_atRisk_30 fg_RX6_107 (by assumption) rfl ?_
      refine z_icmp_ge (tgt := 71) dX6_atRisk_33 (by decide) (fun h33 => ?_) (fun h33 => absurd (nI_le (by omega) (by omega)) h33)
      refine z_iload_n dX6_atRisk_71 rfl ?_
      refine z_ireturn dX6_atRisk_72 rfl (by first | rfl | exact bI_nar _) ?_
      rw [e2]
      exact rQ_of h
    · intro j hj ih x2 x3 e2 e3
      subst e3
      have hv := hi.2.2.1 j hj
      obtain ⟨l1, l2, l3⟩ := latn_lt 10 hv
      have hk := hw.2.2.2 _ l3
      have hk100 := hw.lt hk
      have hfo := hi.2.2.2.2.2.1 _ hk
      have hfo8 := hi.2.1
      refine z_iload_n dX6_atRisk_28 rfl ?_
      refine z_aload_n dX6_atRisk_29 rfl rfl ?_
      refine z_getfield dX6_atRisk_30 fg_RX6_107 (by assumption) rfl ?_
      refine z_icmp_ge (tgt := 71) dX6_atRisk_33 (by decide) (fun h33 => absurd h33 (nI_ge hj (by omega))) (fun h33 => ?_)
      refine z_iload_n dX6_atRisk_36 rfl ?_
      refine z_aload_n dX6_atRisk_37 rfl rfl ?_
      refine z_getfield dX6_atRisk_38 fg_RX6_7 (by assumption) rfl ?_
      refine z_aload_n dX6_atRisk_41 rfl rfl ?_
      refine z_getfield dX6_atRisk_42 fg_RX6_29 (by assumption) rfl ?_
      refine z_aload_n dX6_atRisk_45 rfl rfl ?_
      refine z_iload_n dX6_atRisk_46 rfl ?_
      refine z_ivI dX6_atRisk_47 cv_RX6_131 hm' (c_X6_latest g h (o := j) (by omega) hv) ⟨⟨by decide, by decide⟩, (by first | exact Nat.zero_le _ | decide | omega), (by first | exact Nat.zero_le _ | decide | omega)⟩ rfl rfl (Nat.le_of_ble_eq_true rfl) ?_
      refine z_iaload dX6_atRisk_50 w8 rfl (by omega) (by decide) ?_
      refine z_iaload dX6_atRisk_51 w1 rfl (by omega) (by decide) ?_
      refine z_iload_n dX6_atRisk_52 rfl ?_
      refine z_icmp_lt (tgt := 62) dX6_atRisk_53 (by decide) (fun h53 => ?_) (fun h53 => ?_)
      · refine z_ic ki_0 dX6_atRisk_62 ?_
        refine z_ior dX6_atRisk_63 ?_
        refine z_istore_n dX6_atRisk_64 (by decide) ?_
        refine z_inc ki_1 dX6_atRisk_65 rfl (by decide) ?_
        refine z_goto (tgt := 28) dX6_atRisk_68 (by decide) ?_
        exact ih _ _ (by rw [e2, bset, if_neg (by unfold riskB; rw [decide_eq_false (Int32.not_le.mpr h53)]; decide)]) (nI_add j 1)
      · refine z_ic ki_1 dX6_atRisk_56 ?_
        refine z_iload_n dX6_atRisk_57 rfl ?_
        refine z_ishl dX6_atRisk_58 ?_
        refine z_goto (tgt := 63) dX6_atRisk_59 (by decide) ?_
        refine z_ior dX6_atRisk_63 ?_
        refine z_istore_n dX6_atRisk_64 (by decide) ?_
        refine z_inc ki_1 dX6_atRisk_65 rfl (by decide) ?_
        refine z_goto (tgt := 28) dX6_atRisk_68 (by decide) ?_
        exact ih _ _ (by rw [e2, bset, if_pos (by unfold riskB; rw [decide_eq_true (i32_nlt h53)])]) (nI_add j 1)
  refine z_aload_n dX6_atRisk_0 rfl rfl ?_
  refine z_iload_n dX6_atRisk_1 rfl ?_
  refine z_ic ki_0 dX6_atRisk_2 ?_
  refine z_bi kb_100 dX6_atRisk_3 ?_
  refine z_isI dX6_atRisk_5 cs_RX6_69 (c_X6_isIn g M _ _ _) ⟨⟨by decide, by decide⟩, (by first | exact Nat.zero_le _ | decide | omega), (by first | exact Nat.zero_le _ | decide | omega)⟩ rfl rfl (Nat.le_of_ble_eq_true rfl) ?_
  refine z_if_eq (tgt := 15) dX6_atRisk_8 (by decide) (fun h8 => ?_) (fun h8 => ?_)
  · refine z_ic ki_1 dX6_atRisk_15 ?_
    refine z_ivQ dX6_atRisk_16 cv_RX6_73 hm (c_X6_fails g hW _) ⟨⟨by decide, by decide⟩, (by first | exact Nat.zero_le _ | decide | omega), (by first | exact Nat.zero_le _ | decide | omega)⟩ rfl rfl (Nat.le_of_ble_eq_true rfl) (fun M16 hQ16 => ?_)
    refine z_if_eq (tgt := 24) dX6_atRisk_19 (by decide) (fun h19 => absurd h19 (by decide)) (fun h19 => ?_)
    refine z_ic ki_0 dX6_atRisk_22 ?_
    refine z_ireturn dX6_atRisk_23 rfl (by first | rfl | exact bI_nar _) ?_
    have e : o_atRisk ρ r = (1, nI 0, ρ) := by
      unfold o_atRisk
      rw [if_neg (nt h8 : ¬ inK 0 100 r = true)]
    rw [e]
    exact rQ_of hQ16
  · refine z_ic ki_0 dX6_atRisk_11 ?_
    refine z_goto (tgt := 16) dX6_atRisk_12 (by decide) ?_
    refine z_ivQ dX6_atRisk_16 cv_RX6_73 hm (c_X6_fails g hW _) ⟨⟨by decide, by decide⟩, (by first | exact Nat.zero_le _ | decide | omega), (by first | exact Nat.zero_le _ | decide | omega)⟩ rfl rfl (Nat.le_of_ble_eq_true rfl) (fun M16 hQ16 => ?_)
    refine z_if_eq (tgt := 24) dX6_atRisk_19 (by decide) (fun h19 => ?_) (fun h19 => absurd rfl h19)
    refine z_ic ki_0 dX6_atRisk_24 ?_
    refine z_istore_n dX6_atRisk_25 (by decide) ?_
    refine z_ic ki_0 dX6_atRisk_26 ?_
    refine z_istore_n dX6_atRisk_27 (by decide) ?_
    have e : o_atRisk ρ r = (0, bset (riskB ρ r) ρ.ob, ρ) := by
      unfold o_atRisk
      rw [if_pos (yt h8 : inK 0 100 r = true)]
    rw [e]
    exact loop hQ16 0 (by omega) _ _ rfl rfl
end REFE
