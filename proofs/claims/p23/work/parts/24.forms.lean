/-! the class: formats, and the best ways between them -/
theorem z_raload {g : GG} {d : MD} {bk bn : Nat} {P : PO} {M : Mem} {pc : Nat} {ls : List (Nat × Value)} {st : List Value} {a n j : Nat} {f : Nat → Option Nat} {i : Int32} (hd : decode d.cc pc = .ok (.aaload, 1)) (hM : M a = some (aQ (.array .int) n f)) (hi : i = nI j) (hj : j < n) (hn : n < 2 ^ 31) (kk : tri g d bk bn P M (pc + 1) ls (va_rf (f j) :: st)) : tri g d bk bn P M pc ls (.int i :: .ref a :: st) := by
  intro p e R s m args below meth c H locs cells slots lsA hb hc hS hr hl
  subst hi
  obtain ⟨hBa, cA, ⟨hA1, hA2⟩, hcell⟩ := hr a _ hM
  have hin := vp_in_nI hj hn
  have hcl : (nI j).toNatClampNeg = j := nI_clamp (by omega)
  refine W.aald (v := va_rf (f j)) (ty := .array .int) hb.1.1 hb.1.2 hcell (hA1 n (fun j => va_rf (f j))) rfl (fun q => by cases q) (by show ¬ (nI j < 0 ∨ (arrV _ _ _).slots.size ≤ _); rw [arrV_size]; exact hin) (by show (arrV _ _ _).slots[_]? = _; rw [hcl, arrV_read _ _ hj]) rfl rfl hd ?_
  exact kk p e R s m args below meth c H locs cells slots lsA hb hc hS hr hl
theorem inR_iff {n : Nat} {f : Int32} (hn : n < 2 ^ 31) : inR n f = true ↔ ¬ f < 0 ∧ f < nI n := by
  constructor
  · intro h
    obtain ⟨e, l⟩ := inR_of hn h
    rw [e]
    exact ⟨nI_pos (by omega), (nI_ltI (by omega) hn).mpr l⟩
  · intro ⟨h1, h2⟩
    obtain ⟨j, hj, rfl⟩ := nI_of h1
    have h3 := (nI_ltI hj hn).mp h2
    obtain ⟨m, rfl⟩ : ∃ m, n = m + 1 := ⟨n - 1, by omega⟩
    unfold inR
    rw [nI_pred]
    exact decide_eq_true ⟨Int32.not_lt.mp h1, nI_le (by omega) (by omega)⟩
section FORMS
variable (g : GG) {A : Nat → Nat → Nat} {σ ρ : ST} {x : XT} {M : Mem}
theorem c_X1_has (hW : W2 g A σ ρ x M) (hf : σ.fo ≤ 8) (f : Int32) : con g mX1_has 0 0 [.ref (A 1 0), .int f] M (rI (bI (inR σ.fo f)) M) := by
  refine con_i ?_ (by decide) rfl rfl (by simp [lv_args, Value.category]) (by simp [lv_args, lnd, Value.category])
  have hm := hW.fmts
  have hn : σ.fo < 2 ^ 31 := by omega
  refine z_iload_n dX1_has_0 rfl ?_
  refine z_if_lt (tgt := 22) dX1_has_1 (by decide) (fun h1 => ?_) (fun h1 => ?_)
  · refine z_ic ki_0 dX1_has_22 ?_
    refine z_ireturn dX1_has_23 rfl (by first | rfl | exact bI_nar _) ?_
    exact rI_of (by rw [show inR σ.fo f = false from Bool.eq_false_iff.mpr fun q => ((inR_iff hn).mp q).1 h1]; rfl)
  · refine z_iload_n dX1_has_4 rfl ?_
    refine z_aload_n dX1_has_5 rfl rfl ?_
    refine z_getfield dX1_has_6 fg_RX1_23 (by assumption) rfl ?_
    refine z_icmp_ge (tgt := 22) dX1_has_9 (by decide) (fun h9 => ?_) (fun h9 => ?_)
    · refine z_ic ki_0 dX1_has_22 ?_
      refine z_ireturn dX1_has_23 rfl (by first | rfl | exact bI_nar _) ?_
      exact rI_of (by rw [show inR σ.fo f = false from Bool.eq_false_iff.mpr fun q => Int32.not_lt.mpr h9 ((inR_iff hn).mp q).2]; rfl)
    · refine z_iload_n dX1_has_12 rfl ?_
      refine z_bi kb_8 dX1_has_13 ?_
      refine z_icmp_ge (tgt := 22) dX1_has_15 (by decide) (fun h15 => absurd h15 (Int32.not_le.mpr (Int32.lt_of_lt_of_le (Int32.not_le.mp h9) (nI_le hf (by decide))))) (fun h15 => ?_)
      refine z_ic ki_1 dX1_has_18 ?_
      refine z_goto (tgt := 23) dX1_has_19 (by decide) ?_
      refine z_ireturn dX1_has_23 rfl (by first | rfl | exact bI_nar _) ?_
      exact rI_of (by rw [(inR_iff hn).mpr ⟨h1, Int32.not_le.mp h9⟩]; rfl)
theorem c_X1_isFull (hW : W2 g A σ ρ x M) (hf : σ.fo ≤ 8) : con g mX1_isFull 0 0 [.ref (A 1 0)] M (rI (bI (decide (σ.fo = 8))) M) := by
  refine con_i ?_ (by decide) rfl rfl (by simp [lv_args, Value.category]) (by simp [lv_args, lnd, Value.category])
  have hm := hW.fmts
  refine z_aload_n dX1_isFull_0 rfl rfl ?_
  refine z_getfield dX1_isFull_1 fg_RX1_23 (by assumption) rfl ?_
  refine z_bi kb_8 dX1_isFull_4 ?_
  refine z_icmp_lt (tgt := 13) dX1_isFull_6 (by decide) (fun h6 => ?_) (fun h6 => ?_)
  · refine z_ic ki_0 dX1_isFull_13 ?_
    refine z_ireturn dX1_isFull_14 rfl (by first | rfl | exact bI_nar _) ?_
    have h7 := (nI_ltI (by omega) (by decide)).mp h6
    exact rI_of (by rw [decide_eq_false (by omega)]; rfl)
  · refine z_ic ki_1 dX1_isFull_9 ?_
    refine z_goto (tgt := 14) dX1_isFull_10 (by decide) ?_
    refine z_ireturn dX1_isFull_14 rfl (by first | rfl | exact bI_nar _) ?_
    have h7 : ¬ σ.fo < 8 := fun q => h6 ((nI_ltI (by omega) (by decide)).mpr q)
    exact rI_of (by rw [decide_eq_true (by omega)]; rfl)
def rsk (σ : ST) (f : Int32) : Int32 := if inR σ.fo f = true then σ.i 0 (tN f) else nI 0
theorem c_X1_riskOf (hW : W2 g A σ ρ x M) (hf : σ.fo ≤ 8) (f : Int32) : con g mX1_riskOf 0 0 [.ref (A 1 0), .int f] M (rI (rsk σ f) M) := by
  refine con_i ?_ (by decide) rfl rfl (by simp [lv_args, Value.category]) (by simp [lv_args, lnd, Value.category])
  have hm := hW.fmts
  have hr := hW.risks
  refine z_aload_n dX1_riskOf_0 rfl rfl ?_
  refine z_iload_n dX1_riskOf_1 rfl ?_
  refine z_ivI dX1_riskOf_2 cv_RX1_31 hm (c_X1_has g hW hf f) ⟨⟨by decide, by decide⟩, (by first | exact Nat.zero_le _ | decide | omega), (by first | exact Nat.zero_le _ | decide | omega)⟩ rfl rfl (Nat.le_of_ble_eq_true rfl) ?_
  refine z_if_eq (tgt := 17) dX1_riskOf_5 (by decide) (fun h5 => ?_) (fun h5 => ?_)
  · refine z_ic ki_0 dX1_riskOf_17 ?_
    refine z_ireturn dX1_riskOf_18 rfl (by first | rfl | exact bI_nar _) ?_
    exact rI_of (by unfold rsk; rw [if_neg (nt h5)])
  · refine z_aload_n dX1_riskOf_8 rfl rfl ?_
    refine z_getfield dX1_riskOf_9 fg_RX1_9 (by assumption) rfl ?_
    refine z_iload_n dX1_riskOf_12 rfl ?_
    obtain ⟨e1, l1⟩ := inR_of (by omega) (yt h5 : inR σ.fo f = true)
    refine z_iaload dX1_riskOf_13 hr e1 (by omega) (by decide) ?_
    refine z_goto (tgt := 18) dX1_riskOf_14 (by decide) ?_
    refine z_ireturn dX1_riskOf_18 rfl (by first | rfl | exact bI_nar _) ?_
    exact rI_of (by unfold rsk; rw [if_pos (yt h5)])
theorem c_X1_exchangeRisk (hW : W2 g A σ ρ x M) (hf : σ.fo ≤ 8) {f : Nat} (hl : f < σ.fo) (r : Int32) : con g mX1_exchangeRisk 0 0 [.ref (A 1 0), .int (nI f), .int r] M (rQ (some (.int (σ.i 0 f))) (W2 g A (σ.si 0 f r) ρ x)) := by
  refine con_i ?_ (by decide) rfl rfl (by simp [lv_args, Value.category]) (by simp [lv_args, lnd, Value.category])
  have hm := hW.fmts
  have hr := hW.risks
  have hi := inR_nI (n := σ.fo) (j := f) (by omega) hl
  have htn : tN (nI f) = f := nI_clamp (by omega)
  have hrk : rsk σ (nI f) = σ.i 0 f := by unfold rsk; rw [if_pos hi, htn]
  refine z_aload_n dX1_exchangeRisk_0 rfl rfl ?_
  refine z_iload_n dX1_exchangeRisk_1 rfl ?_
  refine z_ivI dX1_exchangeRisk_2 cv_RX1_35 hm (c_X1_riskOf g hW hf (nI f)) ⟨⟨by decide, by decide⟩, (by first | exact Nat.zero_le _ | decide | omega), (by first | exact Nat.zero_le _ | decide | omega)⟩ rfl rfl (Nat.le_of_ble_eq_true rfl) ?_
  refine z_istore_n dX1_exchangeRisk_5 (by decide) ?_
  refine z_aload_n dX1_exchangeRisk_6 rfl rfl ?_
  refine z_iload_n dX1_exchangeRisk_7 rfl ?_
  refine z_ivI dX1_exchangeRisk_8 cv_RX1_31 hm (c_X1_has g hW hf (nI f)) ⟨⟨by decide, by decide⟩, (by first | exact Nat.zero_le _ | decide | omega), (by first | exact Nat.zero_le _ | decide | omega)⟩ rfl rfl (Nat.le_of_ble_eq_true rfl) ?_
  refine z_if_eq (tgt := 21) dX1_exchangeRisk_11 (by decide) (fun h11 => absurd h11 (by rw [hi]; decide)) (fun h11 => ?_)
  refine z_aload_n dX1_exchangeRisk_14 rfl rfl ?_
  refine z_getfield dX1_exchangeRisk_15 fg_RX1_9 (by assumption) rfl ?_
  refine z_iload_n dX1_exchangeRisk_18 rfl ?_
  refine z_iload_n dX1_exchangeRisk_19 rfl ?_
  refine z_iastore dX1_exchangeRisk_20 hr rfl (by omega) (by decide) ?_
  refine z_iload_n dX1_exchangeRisk_21 rfl ?_
  refine z_ireturn dX1_exchangeRisk_22 rfl (by first | rfl | exact bI_nar _) ?_
  rw [hrk]
  exact rQ_of (hW.crisk f r)
theorem c_X1_add (hW : W2 g A σ ρ x M) (hf : σ.fo < 8) (r : Int32) : con g mX1_add 0 0 [.ref (A 1 0), .int r] M (rQ (some (.int (nI σ.fo))) (W2 g A ((σ.sn 0 (σ.fo + 1)).si 0 σ.fo r) ρ x)) := by
  refine con_i ?_ (by decide) rfl rfl (by simp [lv_args, Value.category]) (by simp [lv_args, lnd, Value.category])
  have hm := hW.fmts
  refine z_aload_n dX1_add_0 rfl rfl ?_
  refine z_getfield dX1_add_1 fg_RX1_23 (by assumption) rfl ?_
  refine z_istore_n dX1_add_4 (by decide) ?_
  refine z_aload_n dX1_add_5 rfl rfl ?_
  refine z_dup dX1_add_6 rfl ?_
  refine z_getfield dX1_add_7 fg_RX1_23 (by assumption) rfl ?_
  refine z_ic ki_1 dX1_add_10 ?_
  refine z_iadd dX1_add_11 ?_
  rw [nI_add]
  refine z_putfield dX1_add_12 (fp_RX1_23 _) (by assumption) (Nat.le_of_ble_eq_true rfl) rfl rfl ?_
  have hW2 := hW.cfo (σ.fo + 1)
  have hm2 := hW2.fmts
  have hfo : (σ.sn 0 (σ.fo + 1)).fo = σ.fo + 1 := by
    show f1 σ.1 0 (σ.fo + 1) 0 = _
    exact f1_s
  refine z_aload_n dX1_add_15 rfl rfl ?_
  refine z_iload_n dX1_add_16 rfl ?_
  refine z_iload_n dX1_add_17 rfl ?_
  refine z_ivQ dX1_add_18 cv_RX1_27 hm2 (c_X1_exchangeRisk g hW2 (by rw [hfo]; omega) (f := σ.fo) (by rw [hfo]; omega) r) ⟨⟨by decide, by decide⟩, (by first | exact Nat.zero_le _ | decide | omega), (by first | exact Nat.zero_le _ | decide | omega)⟩ rfl rfl (Nat.le_of_ble_eq_true rfl) (fun M18 hQ18 => ?_)
  refine z_pop dX1_add_21 rfl ?_
  refine z_iload_n dX1_add_22 rfl ?_
  refine z_ireturn dX1_add_23 rfl (by first | rfl | exact bI_nar _) ?_
  exact rQ_of hQ18
theorem c_X1_setConversion (hW : W2 g A σ ρ x M) (hf : σ.fo ≤ 8) {a b l : Nat} (ha : a < σ.fo) (hb : b < σ.fo) (hl : l ≤ 100) : con g mX1_setConversion 0 0 [.ref (A 1 0), .int (nI a), .int (nI b), .int (nI l)] M (rQ none (W2 g A (σ.sl a b (nI l)) ρ x)) := by
  refine con_i ?_ (by decide) rfl rfl (by simp [lv_args, Value.category]) (by simp [lv_args, lnd, Value.category])
  have hm := hW.fmts
  have hc := hW.costs
  have hr := hW.row (i := a) (by omega)
  have hia := inR_nI (n := σ.fo) (j := a) (by omega) ha
  have hib := inR_nI (n := σ.fo) (j := b) (by omega) hb
  have hco : nI 100 * nI l + nI 1 = costOf (nI l) := by unfold costOf; rw [if_neg (nI_m1 l (by omega))]
  refine z_aload_n dX1_setConversion_0 rfl rfl ?_
  refine z_iload_n dX1_setConversion_1 rfl ?_
  refine z_ivI dX1_setConversion_2 cv_RX1_31 hm (c_X1_has g hW hf (nI a)) ⟨⟨by decide, by decide⟩, (by first | exact Nat.zero_le _ | decide | omega), (by first | exact Nat.zero_le _ | decide | omega)⟩ rfl rfl (Nat.le_of_ble_eq_true rfl) ?_
  refine z_if_eq (tgt := 30) dX1_setConversion_5 (by decide) (fun h5 => absurd h5 (by rw [hia]; decide)) (fun h5 => ?_)
  refine z_aload_n dX1_setConversion_8 rfl rfl ?_
  refine z_iload_n dX1_setConversion_9 rfl ?_
  refine z_ivI dX1_setConversion_10 cv_RX1_31 hm (c_X1_has g hW hf (nI b)) ⟨⟨by decide, by decide⟩, (by first | exact Nat.zero_le _ | decide | omega), (by first | exact Nat.zero_le _ | decide | omega)⟩ rfl rfl (Nat.le_of_ble_eq_true rfl) ?_
  refine z_if_eq (tgt := 30) dX1_setConversion_13 (by decide) (fun h13 => absurd h13 (by rw [hib]; decide)) (fun h13 => ?_)
  refine z_aload_n dX1_setConversion_16 rfl rfl ?_
  refine z_getfield dX1_setConversion_17 fg_RX1_17 (by assumption) rfl ?_
  refine z_iload_n dX1_setConversion_20 rfl ?_
  refine z_raload dX1_setConversion_21 hc rfl (by omega) (by decide) ?_
  refine z_iload_n dX1_setConversion_22 rfl ?_
  refine z_bi kb_100 dX1_setConversion_23 ?_
  refine z_iload_n dX1_setConversion_25 rfl ?_
  refine z_imul dX1_setConversion_26 ?_
  refine z_ic ki_1 dX1_setConversion_27 ?_
  refine z_iadd dX1_setConversion_28 ?_
  refine z_iastore dX1_setConversion_29 hr rfl (by omega) (by decide) ?_
  rw [hco]
  refine z_return dX1_setConversion_30 rfl ?_
  exact rQ_of (hW.crow a b (by omega) (nI l))
theorem c_X1_lossOf (c : Int32) : con g mX1_lossOf 0 0 [.int c] M (rI (c / nI 100) M) := by
  refine con_i ?_ (by decide) rfl rfl (by simp [lv_args, Value.category]) (by simp [lv_args, lnd, Value.category])
  refine z_iload_n dX1_lossOf_0 rfl ?_
  refine z_bi kb_100 dX1_lossOf_1 ?_
  refine z_idiv dX1_lossOf_3 (by decide) ?_
  refine z_ireturn dX1_lossOf_4 rfl (by first | rfl | exact bI_nar _) ?_
  exact rI_of (by first | rfl | assumption | simp_all)
def rchS (b : Nat → Int32) (j : Nat) (c : Int32) : Nat → Int32 := if b j = -1 ∨ c < b j then upd b j c else b
theorem c_X1_reach (hW : W2 g A σ ρ x M) (hf : σ.fo ≤ 8) {j : Nat} (hj : j < σ.fo) (c : Int32) : con g mX1_reach 0 0 [.ref (A 1 0), .int (nI j), .int c] M (rQ none (W2 g A σ ρ (x.srch (rchS x.rch j c)))) := by
  refine con_i ?_ (by decide) rfl rfl (by simp [lv_args, Value.category]) (by simp [lv_args, lnd, Value.category])
  have hm := hW.fmts
  have hr := hW.rch
  have hi := inR_nI (n := σ.fo) (j := j) (by omega) hj
  refine z_aload_n dX1_reach_0 rfl rfl ?_
  refine z_iload_n dX1_reach_1 rfl ?_
  refine z_ivI dX1_reach_2 cv_RX1_31 hm (c_X1_has g hW hf (nI j)) ⟨⟨by decide, by decide⟩, (by first | exact Nat.zero_le _ | decide | omega), (by first | exact Nat.zero_le _ | decide | omega)⟩ rfl rfl (Nat.le_of_ble_eq_true rfl) ?_
  refine z_if_eq (tgt := 35) dX1_reach_5 (by decide) (fun h5 => absurd h5 (by rw [hi]; decide)) (fun h5 => ?_)
  refine z_aload_n dX1_reach_8 rfl rfl ?_
  refine z_getfield dX1_reach_9 fg_RX1_20 (by assumption) rfl ?_
  refine z_iload_n dX1_reach_12 rfl ?_
  refine z_iaload dX1_reach_13 hr rfl (by omega) (by decide) ?_
  refine z_ic ki_m1 dX1_reach_14 ?_
  refine z_icmp_eq (tgt := 28) dX1_reach_15 (by decide) (fun h15 => ?_) (fun h15 => ?_)
  · refine z_aload_n dX1_reach_28 rfl rfl ?_
    refine z_getfield dX1_reach_29 fg_RX1_20 (by assumption) rfl ?_
    refine z_iload_n dX1_reach_32 rfl ?_
    refine z_iload_n dX1_reach_33 rfl ?_
    refine z_iastore dX1_reach_34 hr rfl (by omega) (by decide) ?_
    refine z_return dX1_reach_35 rfl ?_
    have e : rchS x.rch j c = upd x.rch j c := by unfold rchS; rw [if_pos (Or.inl h15)]
    rw [e]
    exact rQ_of (hW.crch _)
  · refine z_iload_n dX1_reach_18 rfl ?_
    refine z_aload_n dX1_reach_19 rfl rfl ?_
    refine z_getfield dX1_reach_20 fg_RX1_20 (by assumption) rfl ?_
    refine z_iload_n dX1_reach_23 rfl ?_
    refine z_iaload dX1_reach_24 hr rfl (by omega) (by decide) ?_
    refine z_icmp_ge (tgt := 35) dX1_reach_25 (by decide) (fun h25 => ?_) (fun h25 => ?_)
    · refine z_return dX1_reach_35 rfl ?_
      have e : rchS x.rch j c = x.rch := by
        unfold rchS
        rw [if_neg (fun q => ?_)]
        rcases q with q | q
        · exact h15 q
        · exact Int32.not_le.mpr q h25
      rw [e]
      exact rQ_of hW
    · refine z_aload_n dX1_reach_28 rfl rfl ?_
      refine z_getfield dX1_reach_29 fg_RX1_20 (by assumption) rfl ?_
      refine z_iload_n dX1_reach_32 rfl ?_
      refine z_iload_n dX1_reach_33 rfl ?_
      refine z_iastore dX1_reach_34 hr rfl (by omega) (by decide) ?_
      refine z_return dX1_reach_35 rfl ?_
      have e : rchS x.rch j c = upd x.rch j c := by unfold rchS; rw [if_pos (Or.inr (Int32.not_le.mp h25))]
      rw [e]
      exact rQ_of (hW.crch _)
theorem LI.cost {σ : ST} (h : LI σ) {i j : Nat} (hi : i < 8) (hj : j < 8) : (costOf (σ.lo i j) = 0 ↔ σ.lo i j = -1) := by
  rcases h.2 i j hi hj with e | ⟨-, -, l, hl, e⟩
  · rw [e]
    exact ⟨fun _ => rfl, fun _ => rfl⟩
  · rw [e]
    unfold costOf
    rw [if_neg (nI_m1 l (by omega)), pk_mul, nI_add]
    exact ⟨fun q => absurd ((nI_eq (b := 0) (by omega) (by decide)).mp q) (by omega), fun q => absurd q (nI_m1 l (by omega))⟩
theorem LI.to {σ : ST} (h : LI σ) {i j : Nat} (hi : i < 8) (hj : j < 8) (hq : ¬ σ.lo i j = -1) : j < σ.fo := by
  rcases h.2 i j hi hj with e | ⟨-, h2, -⟩
  · exact absurd e hq
  · exact h2
/-- a step of the class is a step of the reference's rounds -/
theorem rchS_wst {σ : ST} {b : Nat → Int32} {i j : Nat} (h1 : ¬ σ.lo i j = -1) (h2 : ¬ b i = -1) : rchS b j (b i + costOf (σ.lo i j)) = wst σ b i j := by
  have e : b i + costOf (σ.lo i j) = b i + nI 100 * σ.lo i j + nI 1 := by
    unfold costOf
    rw [if_neg h1, Int32.add_assoc]
  rw [e]
  unfold rchS wst
  by_cases hq : b j = -1 ∨ b i + nI 100 * σ.lo i j + nI 1 < b j
  · rw [if_pos hq, if_pos ⟨h1, h2, hq⟩]
    rfl
  · rw [if_neg hq, if_neg (fun q => hq q.2.2)]
theorem c_X1_lengthenWays (hL : LI σ) {a r : Nat} {bf : Nat → Int32} (hW : W2 g A σ ρ (x.srch bf) M) (eb : ∀ k, k < 8 → bf k = wayB σ a (64 * r) k) : con g mX1_lengthenWays 0 0 [.ref (A 1 0)] M (rQ none (fun M' => ∃ f, W2 g A σ ρ (x.srch f) M' ∧ ∀ k, k < 8 → f k = wayB σ a (64 * (r + 1)) k)) := by
  refine con_i ?_ (by decide) rfl rfl (by simp [lv_args, Value.category]) (by simp [lv_args, lnd, Value.category])
  have hf := hL.1
  have loop : ∀ i, i ≤ 8 → ∀ (bf : Nat → Int32) (M' : Mem) y1 y2, (y2 = [] ∨ ∃ z, y2 = [(2, Value.int z)]) → W2 g A σ ρ (x.srch bf) M' → (∀ k, k < 8 → bf k = wayB σ a (64 * r + 8 * i) k) → y1 = nI i → tri g mX1_lengthenWays 0 0 (rQ none (fun M' => ∃ f, W2 g A σ ρ (x.srch f) M' ∧ ∀ k, k < 8 → f k = wayB σ a (64 * (r + 1)) k)) M' 2 ((0, .ref (A 1 0)) :: (1, .int y1) :: y2) [] := by
    refine lp_up 8 ?_ ?_
    · intro bf M' y1 y2 hy h eb e1
      subst e1
      refine z_iload_n dX1_lengthenWays_2 rfl ?_
      refine z_bi kb_8 dX1_lengthenWays_3 ?_
      refine z_icmp_ge (tgt := 69) dX1_lengthenWays_5 (by decide) (fun h5 => ?_) (fun h5 => absurd (nI_le (by omega) (by omega)) h5)
      refine z_return dX1_lengthenWays_69 rfl ?_
      exact rQ_of ⟨bf, h, fun k hk => by rw [eb k hk, show 64 * (r + 1) = 64 * r + 8 * 8 by omega]⟩
    · intro i hi ih bf M' y1 y2 hy h eb e1
      subst e1
      have inner : ∀ j, j ≤ 8 → ∀ (bf : Nat → Int32) (M' : Mem) z2, W2 g A σ ρ (x.srch bf) M' → (∀ k, k < 8 → bf k = wayB σ a (64 * r + 8 * i + j) k) → z2 = nI j → tri g mX1_lengthenWays 0 0 (rQ none (fun M' => ∃ f, W2 g A σ ρ (x.srch f) M' ∧ ∀ k, k < 8 → f k = wayB σ a (64 * (r + 1)) k)) M' 10 ((0, .ref (A 1 0)) :: (1, .int (nI i)) :: (2, .int z2) :: []) [] := by
        refine lp_up 8 ?_ ?_
        · intro bf M' z2 h eb e2
          subst e2
          refine z_iload_n dX1_lengthenWays_10 rfl ?_
          refine z_bi kb_8 dX1_lengthenWays_11 ?_
          refine z_icmp_ge (tgt := 63) dX1_lengthenWays_13 (by decide) (fun h13 => ?_) (fun h13 => absurd (nI_le (by omega) (by omega)) h13)
          refine z_inc ki_1 dX1_lengthenWays_63 rfl (by decide) ?_
          refine z_goto (tgt := 2) dX1_lengthenWays_66 (by decide) ?_
          exact ih bf M' _ _ (Or.inr ⟨_, rfl⟩) h (fun k hk => by rw [eb k hk, show 64 * r + 8 * (i + 1) = 64 * r + 8 * i + 8 by omega]) (nI_add i 1)
        · intro j hj ih2 bf M' z2 h eb e2
          subst e2
          have hm := h.fmts
          have hr := h.rch
          have hc := h.costs
          have hw := h.row hi
          have hst : ∀ k, k < 8 → wst σ bf i j k = wayB σ a (64 * r + 8 * i + (j + 1)) k := fun k hk => by
            show _ = wst σ (wayB σ a (64 * r + 8 * i + j)) ((64 * r + 8 * i + j) / 8 % 8) ((64 * r + 8 * i + j) % 8) k
            rw [show (64 * r + 8 * i + j) / 8 % 8 = i by omega, show (64 * r + 8 * i + j) % 8 = j by omega]
            exact wst_eq eb hi hj k hk
          refine z_iload_n dX1_lengthenWays_10 rfl ?_
          refine z_bi kb_8 dX1_lengthenWays_11 ?_
          refine z_icmp_ge (tgt := 63) dX1_lengthenWays_13 (by decide) (fun h13 => absurd h13 (nI_ge hj (by omega))) (fun h13 => ?_)
          refine z_aload_n dX1_lengthenWays_16 rfl rfl ?_
          refine z_getfield dX1_lengthenWays_17 fg_RX1_20 (by assumption) rfl ?_
          refine z_iload_n dX1_lengthenWays_20 rfl ?_
          refine z_iaload dX1_lengthenWays_21 hr rfl hi (by decide) ?_
          refine z_ic ki_m1 dX1_lengthenWays_22 ?_
          refine z_icmp_eq (tgt := 57) dX1_lengthenWays_23 (by decide) (fun h23 => ?_) (fun h23 => ?_)
          · refine z_inc ki_1 dX1_lengthenWays_57 rfl (by decide) ?_
            refine z_goto (tgt := 10) dX1_lengthenWays_60 (by decide) ?_
            refine ih2 bf _ _ h (fun k hk => ?_) (nI_add j 1)
            rw [← hst k hk, wst, if_neg (fun q => q.2.1 h23)]
          · refine z_aload_n dX1_lengthenWays_26 rfl rfl ?_
            refine z_getfield dX1_lengthenWays_27 fg_RX1_17 (by assumption) rfl ?_
            refine z_iload_n dX1_lengthenWays_30 rfl ?_
            refine z_raload dX1_lengthenWays_31 hc rfl hi (by decide) ?_
            refine z_iload_n dX1_lengthenWays_32 rfl ?_
            refine z_iaload dX1_lengthenWays_33 hw rfl hj (by decide) ?_
            refine z_if_eq (tgt := 57) dX1_lengthenWays_34 (by decide) (fun h34 => ?_) (fun h34 => ?_)
            · refine z_inc ki_1 dX1_lengthenWays_57 rfl (by decide) ?_
              refine z_goto (tgt := 10) dX1_lengthenWays_60 (by decide) ?_
              refine ih2 bf _ _ h (fun k hk => ?_) (nI_add j 1)
              rw [← hst k hk, wst, if_neg (fun q => q.1 ((hL.cost hi hj).mp h34))]
            · refine z_aload_n dX1_lengthenWays_37 rfl rfl ?_
              refine z_iload_n dX1_lengthenWays_38 rfl ?_
              refine z_aload_n dX1_lengthenWays_39 rfl rfl ?_
              refine z_getfield dX1_lengthenWays_40 fg_RX1_20 (by assumption) rfl ?_
              refine z_iload_n dX1_lengthenWays_43 rfl ?_
              refine z_iaload dX1_lengthenWays_44 hr rfl hi (by decide) ?_
              refine z_aload_n dX1_lengthenWays_45 rfl rfl ?_
              refine z_getfield dX1_lengthenWays_46 fg_RX1_17 (by assumption) rfl ?_
              refine z_iload_n dX1_lengthenWays_49 rfl ?_
              refine z_raload dX1_lengthenWays_50 hc rfl hi (by decide) ?_
              refine z_iload_n dX1_lengthenWays_51 rfl ?_
              refine z_iaload dX1_lengthenWays_52 hw rfl hj (by decide) ?_
              refine z_iadd dX1_lengthenWays_53 ?_
              have hlo : ¬ σ.lo i j = -1 := fun q => h34 ((hL.cost hi hj).mpr q)
              refine z_ivQ dX1_lengthenWays_54 cv_RX1_42 hm (c_X1_reach g h hf (j := j) (hL.to hi hj hlo) _) ⟨⟨by decide, by decide⟩, (by first | exact Nat.zero_le _ | decide | omega), (by first | exact Nat.zero_le _ | decide | omega)⟩ rfl rfl (Nat.le_of_ble_eq_true rfl) (fun M54 hQ54 => ?_)
              refine z_inc ki_1 dX1_lengthenWays_57 rfl (by decide) ?_
              refine z_goto (tgt := 10) dX1_lengthenWays_60 (by decide) ?_
              refine ih2 _ _ _ hQ54 (fun k hk => ?_) (nI_add j 1)
              rw [← hst k hk, ← rchS_wst (b := bf) hlo h23]
              rfl
      rcases hy with rfl | ⟨z, rfl⟩
      · skip
        refine z_iload_n dX1_lengthenWays_2 rfl ?_
        refine z_bi kb_8 dX1_lengthenWays_3 ?_
        refine z_icmp_ge (tgt := 69) dX1_lengthenWays_5 (by decide) (fun h5 => absurd h5 (nI_ge hi (by omega))) (fun h5 => ?_)
        refine z_ic ki_0 dX1_lengthenWays_8 ?_
        refine z_istore_n dX1_lengthenWays_9 (by decide) ?_
        exact inner 0 (by omega) bf M' _ h (fun k hk => eb k hk) rfl
      · skip
        refine z_iload_n dX1_lengthenWays_2 rfl ?_
        refine z_bi kb_8 dX1_lengthenWays_3 ?_
        refine z_icmp_ge (tgt := 69) dX1_lengthenWays_5 (by decide) (fun h5 => absurd h5 (nI_ge hi (by omega))) (fun h5 => ?_)
        refine z_ic ki_0 dX1_lengthenWays_8 ?_
        refine z_istore_n dX1_lengthenWays_9 (by decide) ?_
        exact inner 0 (by omega) bf M' _ h (fun k hk => eb k hk) rfl
  refine z_ic ki_0 dX1_lengthenWays_0 ?_
  refine z_istore_n dX1_lengthenWays_1 (by decide) ?_
  exact loop 0 (by omega) bf M _ _ (Or.inl rfl) hW eb rfl
def bstC (σ : ST) (a b : Int32) : Int32 := if inR σ.fo a = true ∧ inR σ.fo b = true then way σ (tN a) (tN b) else -1
theorem x1_best2 (hL : LI σ) {a b : Nat} (ha : a < σ.fo) (hb : b < σ.fo) : ∀ c, c ≤ σ.fo - 1 → ∀ (bf : Nat → Int32) (M' : Mem) y, W2 g A σ ρ (x.srch bf) M' → (∀ k, k < 8 → bf k = wayB σ a (64 * c) k) → y = nI (c + 1) → tri g mX1_bestCost 0 0 (rQ (some (.int (way σ a b))) (fun M' => ∃ f, W2 g A σ ρ (x.srch f) M')) M' 48 [(0, .ref (A 1 0)), (1, .int (nI a)), (2, .int (nI b)), (3, .int y)] [] := by
  have hf := hL.1
  refine lp_up (σ.fo - 1) ?_ ?_
  · intro bf M' y h eb e
    subst e
    have hm := h.fmts
    have hr := h.rch
    refine z_iload_n dX1_bestCost_48 rfl ?_
    refine z_aload_n dX1_bestCost_49 rfl rfl ?_
    refine z_getfield dX1_bestCost_50 fg_RX1_23 (by assumption) rfl ?_
    refine z_icmp_ge (tgt := 66) dX1_bestCost_53 (by decide) (fun h53 => ?_) (fun h53 => absurd (nI_le (by omega) (by omega)) h53)
    refine z_aload_n dX1_bestCost_66 rfl rfl ?_
    refine z_getfield dX1_bestCost_67 fg_RX1_20 (by assumption) rfl ?_
    refine z_iload_n dX1_bestCost_70 rfl ?_
    refine z_iaload dX1_bestCost_71 hr rfl (by omega) (by decide) ?_
    refine z_ireturn dX1_bestCost_72 rfl (by first | rfl | exact bI_nar _) ?_
    have e9 : bf b = way σ a b := (eb b (by omega)).trans (way_conv hL ha (by omega))
    show rQ _ _ (.inl (some (.int (bf b)))) _
    rw [e9]
    exact rQ_of ⟨bf, h⟩
  · intro c hc ih bf M' y h eb e
    subst e
    have hm := h.fmts
    refine z_iload_n dX1_bestCost_48 rfl ?_
    refine z_aload_n dX1_bestCost_49 rfl rfl ?_
    refine z_getfield dX1_bestCost_50 fg_RX1_23 (by assumption) rfl ?_
    refine z_icmp_ge (tgt := 66) dX1_bestCost_53 (by decide) (fun h53 => absurd h53 (nI_ge (by omega) (by omega))) (fun h53 => ?_)
    refine z_aload_n dX1_bestCost_56 rfl rfl ?_
    refine z_ivQ dX1_bestCost_57 cv_RX1_39 hm (c_X1_lengthenWays g hL h eb) ⟨⟨by decide, by decide⟩, (by first | exact Nat.zero_le _ | decide | omega), (by first | exact Nat.zero_le _ | decide | omega)⟩ rfl rfl (Nat.le_of_ble_eq_true rfl) (fun M57 hQ57 => ?_)
    refine z_inc ki_1 dX1_bestCost_60 rfl (by decide) ?_
    refine z_goto (tgt := 48) dX1_bestCost_63 (by decide) ?_
    obtain ⟨f, hf1, hf2⟩ := hQ57
    exact ih f _ _ hf1 hf2 (nI_add (c + 1) 1)
theorem x1_best1 (hL : LI σ) {a b : Nat} (ha : a < σ.fo) (hb : b < σ.fo) : ∀ j, j ≤ 8 → ∀ (bf : Nat → Int32) (M' : Mem) y, W2 g A σ ρ (x.srch bf) M' → (∀ k, k < j → bf k = -1) → y = nI j → tri g mX1_bestCost 0 0 (rQ (some (.int (way σ a b))) (fun M' => ∃ f, W2 g A σ ρ (x.srch f) M')) M' 20 [(0, .ref (A 1 0)), (1, .int (nI a)), (2, .int (nI b)), (3, .int y)] [] := by
  have hf := hL.1
  refine lp_up 8 ?_ ?_
  · intro bf M' y h eb e
    subst e
    have hm := h.fmts
    have hr := h.rch
    refine z_iload_n dX1_bestCost_20 rfl ?_
    refine z_bi kb_8 dX1_bestCost_21 ?_
    refine z_icmp_ge (tgt := 39) dX1_bestCost_23 (by decide) (fun h23 => ?_) (fun h23 => absurd (nI_le (by omega) (by omega)) h23)
    refine z_aload_n dX1_bestCost_39 rfl rfl ?_
    refine z_getfield dX1_bestCost_40 fg_RX1_20 (by assumption) rfl ?_
    refine z_iload_n dX1_bestCost_43 rfl ?_
    refine z_ic ki_0 dX1_bestCost_44 ?_
    refine z_iastore dX1_bestCost_45 hr rfl (by omega) (by decide) ?_
    refine z_ic ki_1 dX1_bestCost_46 ?_
    refine z_istore_n dX1_bestCost_47 (by decide) ?_
    refine x1_best2 g hL ha hb 0 (by omega) _ _ _ (h.crch _) (fun k hk => ?_) rfl
    show upd bf a (nI 0) k = w0 a k
    unfold upd w0
    by_cases hka : k = a
    · rw [if_pos hka, if_pos hka]
    · rw [if_neg hka, if_neg hka]
      exact eb k hk
  · intro j hj ih bf M' y h eb e
    subst e
    have hm := h.fmts
    have hr := h.rch
    refine z_iload_n dX1_bestCost_20 rfl ?_
    refine z_bi kb_8 dX1_bestCost_21 ?_
    refine z_icmp_ge (tgt := 39) dX1_bestCost_23 (by decide) (fun h23 => absurd h23 (nI_ge hj (by omega))) (fun h23 => ?_)
    refine z_aload_n dX1_bestCost_26 rfl rfl ?_
    refine z_getfield dX1_bestCost_27 fg_RX1_20 (by assumption) rfl ?_
    refine z_iload_n dX1_bestCost_30 rfl ?_
    refine z_ic ki_m1 dX1_bestCost_31 ?_
    refine z_iastore dX1_bestCost_32 hr rfl hj (by decide) ?_
    refine z_inc ki_1 dX1_bestCost_33 rfl (by decide) ?_
    refine z_goto (tgt := 20) dX1_bestCost_36 (by decide) ?_
    refine ih _ _ _ (h.crch _) (fun k hk => ?_) (nI_add j 1)
    unfold upd
    by_cases hkj : k = j
    · rw [if_pos hkj]
    · rw [if_neg hkj]
      exact eb k (by omega)
theorem c_X1_bestCost (hL : LI σ) (hW : W2 g A σ ρ x M) (a b : Int32) : con g mX1_bestCost 0 0 [.ref (A 1 0), .int a, .int b] M (rQ (some (.int (bstC σ a b))) (fun M' => ∃ f, W2 g A σ ρ (x.srch f) M')) := by
  refine con_i ?_ (by decide) rfl rfl (by simp [lv_args, Value.category]) (by simp [lv_args, lnd, Value.category])
  have hf := hL.1
  have hm := hW.fmts
  refine z_aload_n dX1_bestCost_0 rfl rfl ?_
  refine z_iload_n dX1_bestCost_1 rfl ?_
  refine z_ivI dX1_bestCost_2 cv_RX1_31 hm (c_X1_has g hW hf a) ⟨⟨by decide, by decide⟩, (by first | exact Nat.zero_le _ | decide | omega), (by first | exact Nat.zero_le _ | decide | omega)⟩ rfl rfl (Nat.le_of_ble_eq_true rfl) ?_
  refine z_if_eq (tgt := 16) dX1_bestCost_5 (by decide) (fun h5 => ?_) (fun h5 => ?_)
  · refine z_ic ki_m1 dX1_bestCost_16 ?_
    refine z_ireturn dX1_bestCost_17 rfl (by first | rfl | exact bI_nar _) ?_
    rw [show bstC σ a b = -1 by unfold bstC; rw [if_neg (fun q => nt h5 q.1)]]
    exact rQ_of ⟨x.rch, hW⟩
  · refine z_aload_n dX1_bestCost_8 rfl rfl ?_
    refine z_iload_n dX1_bestCost_9 rfl ?_
    refine z_ivI dX1_bestCost_10 cv_RX1_31 hm (c_X1_has g hW hf b) ⟨⟨by decide, by decide⟩, (by first | exact Nat.zero_le _ | decide | omega), (by first | exact Nat.zero_le _ | decide | omega)⟩ rfl rfl (Nat.le_of_ble_eq_true rfl) ?_
    refine z_if_ne (tgt := 18) dX1_bestCost_13 (by decide) (fun h13 => ?_) (fun h13 => ?_)
    · refine z_ic ki_0 dX1_bestCost_18 ?_
      refine z_istore_n dX1_bestCost_19 (by decide) ?_
      rw [show bstC σ a b = way σ (tN a) (tN b) by unfold bstC; rw [if_pos ⟨yt h5, yt h13⟩]]
      obtain ⟨ea, la⟩ := inR_of (by omega) (yt h5)
      obtain ⟨eb, lb⟩ := inR_of (by omega) (yt h13)
      have hgo := x1_best1 g hL (x := x) la lb 0 (by omega) x.rch M _ hW (fun k hk => absurd hk (Nat.not_lt_zero k)) rfl
      rw [← ea, ← eb] at hgo
      exact hgo
    · refine z_ic ki_m1 dX1_bestCost_16 ?_
      refine z_ireturn dX1_bestCost_17 rfl (by first | rfl | exact bI_nar _) ?_
      rw [show bstC σ a b = -1 by unfold bstC; rw [if_neg (fun q => nt h13 q.2)]]
      exact rQ_of ⟨x.rch, hW⟩
end FORMS
