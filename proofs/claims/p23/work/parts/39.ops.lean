/-! the class: its short calls -/
theorem z_throwW {g : GG} {d : MD} {bk bn : Nat} {P : PO} {M : Mem} {pc : Nat} {ls : List (Nat × Value)} {st : List Value} {ik is ic : Nat} {cls text : String} (hT : thk d.y.cls ik is ic cls text) (d0 : decode d.cc pc = .ok (.new ik, 3)) (d3 : decode d.cc (pc + 3) = .ok (.dup, 1)) (d4 : decode d.cc (pc + 4) = .ok (.ldc_w is, 3)) (d6 : decode d.cc (pc + 7) = .ok (.invokespecial ic, 3)) (d9 : decode d.cc (pc + 10) = .ok (.athrow, 1))
    (hh : d.hh = []) (hroom : 6 ≤ d.fr ∧ 90 ≤ d.lo ∧ 1 ≤ bk ∧ 6 ≤ bn) (hw : (st.map fun v => v.category).sum ≤ 8) (hP : P (.inr cls) M) : tri g d bk bn P M pc ls st := by
  intro p e R s m args below meth c H locs cells slots lsA hb hc hS hr hl
  obtain ⟨t1, t2, t3, t4, t5, t6⟩ := hT
  obtain ⟨hG0, hG1, ⟨hG2, hG3⟩, ⟨hG4, hG4n⟩, hG5⟩ := hb.2.2.2.2.2.2
  obtain ⟨sa, hsa⟩ := hG4 _ t4
  have hts := hb.2.2.2.1
  have hTb : c.exceptionTable.toList = tableOf d.hh := hb.2.2.2.2.1.2
  rw [hh] at hTb
  have hfr := hb.2.2.2.2.2.1.2.1
  have hlo := hb.2.2.2.2.2.1.2.2
  refine W.widen (k := cells) (n := slots) (Nat.le_refl _) (Nat.le_refl _) ?_
  refine vx_throwSW (cls := cls) (text := text) (names := ["java/lang/RuntimeException", "java/lang/Exception"]) (sa := sa) (A := g.A) hb.1.1 hb.1.2 hG0.2 hb.2.2.1 t1 (by decide) (hts _ t2) (hts _ t3) hsa (fun w hw => hts w (t5 w hw)) t6 hG2 hG3 hS (by rw [hl.1.1, hb.2.1.2]) d0 d3 d4 d6 d9
    (fun x hx => by rw [hTb] at hx; cases hx) (by show 2 + 3 < _; omega) (by show _ + (13 * (2 + 1) + 43) ≤ _; omega) (by omega) (by omega) hb.2.2.2.2.1.1 (fun t hal hz hk => ?_) (fun z hz => hS.2.2 z hz) (by omega) (by omega)
  refine ⟨M, hP, fun q e hq => ⟨(hr q e hq).1, ((hr q e hq).2.kept (hk q (hr q e hq).2.lt)).moved hal⟩, Nat.le_trans hS.1 hz, fun q h1 h2 => (hk q (Nat.lt_of_lt_of_le h1 hS.1)).trans (hS.2.1 q h1 h2)⟩
/-- what a call does: answers, or throws what its code says -/
def rO (o : OP) (E : Nat → String) (Q : Mem → Prop) : PO := fun r M' => Q M' ∧ ((o.1 = 0 ∧ r = .inl (some (.int o.2.1))) ∨ (o.1 ≠ 0 ∧ r = .inr (E o.1)))
theorem rO_y {o : OP} {E : Nat → String} {Q : Mem → Prop} {M : Mem} {a : Int32} (h : Q M) (h0 : o.1 = 0) (ha : o.2.1 = a) : rO o E Q (.inl (some (.int a))) M := ⟨h, Or.inl ⟨h0, by rw [ha]⟩⟩
theorem rO_n {o : OP} {E : Nat → String} {Q : Mem → Prop} {M : Mem} {x : String} (h : Q M) (h0 : o.1 ≠ 0) (hx : E o.1 = x) : rO o E Q (.inr x) M := ⟨h, Or.inr ⟨h0, by rw [hx]⟩⟩
/-- what is thrown by its code: one, two, three -/
def eX (a b c : String) (n : Nat) : String := if n = 1 then a else if n = 2 then b else c
section OPS
variable (g : GG) {A : Nat → Nat → Nat} {σ ρ : ST} {x : XT} {M : Mem}
theorem c_X5_unitAt (hW : W2 g A σ ρ x M) (hw : WF σ) (hC : CAP σ) (hN : ND σ) (u : Int32) : con g mX5_unitAt 1 6 [.ref (A 0 0), .int u] M (rB (isU σ u) (some (.ref (A 13 (tN u)))) xIO M) := by
  refine con_i ?_ (by decide) rfl rfl (by simp [lv_args, Value.category]) (by simp [lv_args, lnd, Value.category])
  have hA := hW.hall
  have hfi := c_X2_find g hW hw hC hN u
  cases hb : isU σ u with
  | true =>
    rw [show fuO σ u = some (tN u) by unfold fuO; rw [if_pos hb]] at hfi
    have hfi : con g mX2_find 0 0 [.ref (A 6 0), .int u] M (rA (.ref (A 13 (tN u))) M) := hfi
    refine z_aload_n dX5_unitAt_0 rfl rfl ?_
    refine z_getfield dX5_unitAt_1 fg_RX5_19 (by assumption) rfl ?_
    refine z_iload_n dX5_unitAt_4 rfl ?_
    refine z_ivA dX5_unitAt_5 cv_RX5_254 hW.store (hfi) ⟨⟨by decide, by decide⟩, (by first | exact Nat.zero_le _ | decide | omega), (by first | exact Nat.zero_le _ | decide | omega)⟩ rfl rfl (Nat.le_of_ble_eq_true rfl) ?_
    refine z_astore_n dX5_unitAt_8 (by decide) rfl ?_
    refine z_aload_n dX5_unitAt_9 rfl rfl ?_
    refine z_ifnonnull (tgt := 24) rfl dX5_unitAt_10 (by decide) (fun h10 => ?_) (fun h10 => ?_)
    · refine z_aload_n dX5_unitAt_24 rfl rfl ?_
      refine z_areturn dX5_unitAt_25 rfl rfl (by first | exact Or.inl ⟨_, rfl⟩ | exact Or.inr ⟨_, rfl⟩) ?_
      exact rB_y rfl
    · cases h10
  | false =>
    rw [show fuO σ u = none by unfold fuO; rw [if_neg (by rw [hb]; decide)]] at hfi
    have hfi : con g mX2_find 0 0 [.ref (A 6 0), .int u] M (rA .null M) := hfi
    refine z_aload_n dX5_unitAt_0 rfl rfl ?_
    refine z_getfield dX5_unitAt_1 fg_RX5_19 (by assumption) rfl ?_
    refine z_iload_n dX5_unitAt_4 rfl ?_
    refine z_ivA dX5_unitAt_5 cv_RX5_254 hW.store (hfi) ⟨⟨by decide, by decide⟩, (by first | exact Nat.zero_le _ | decide | omega), (by first | exact Nat.zero_le _ | decide | omega)⟩ rfl rfl (Nat.le_of_ble_eq_true rfl) ?_
    refine z_astore_n dX5_unitAt_8 (by decide) rfl ?_
    refine z_aload_n dX5_unitAt_9 rfl rfl ?_
    refine z_ifnonnull (tgt := 24) rfl dX5_unitAt_10 (by decide) (fun h10 => ?_) (fun h10 => ?_)
    · exact absurd rfl h10
    · exact z_throwW (thk_IO (is := 256) (text := "no such unit") (List.mem_of_getElem? (i := 20) rfl)) dX5_unitAt_13 dX5_unitAt_16 dX5_unitAt_17 dX5_unitAt_20 dX5_unitAt_23 rfl ⟨by decide, by decide, by first | decide | omega, by first | decide | omega⟩ (Nat.le_of_ble_eq_true rfl) (rB_n rfl)
theorem c_X5_addFormat (hW : W2 g A σ ρ x M) (hf : σ.fo ≤ 8) (r : Int32) : con g mX5_addFormat 2 12 [.ref (A 0 0), .int r] M (rO (o_addFormat σ r) (eX xIA xIS xIS) (W2 g A (o_addFormat σ r).2.2 ρ x)) := by
  refine con_i ?_ (by decide) rfl rfl (by simp [lv_args, Value.category]) (by simp [lv_args, lnd, Value.category])
  have hA := hW.hall
  have e1 : inK 0 100 r = false → o_addFormat σ r = (1, nI 0, σ) := fun h => by unfold o_addFormat; rw [if_neg (by rw [h]; decide)]
  refine z_iload_n dX5_addFormat_0 rfl ?_
  refine z_isB dX5_addFormat_1 cs_RX5_30 (c_X5_requireRisk g r) ⟨⟨by decide, by decide⟩, (by first | exact Nat.zero_le _ | decide | omega), (by first | exact Nat.zero_le _ | decide | omega)⟩ rfl rfl (Nat.le_of_ble_eq_true rfl) rfl (fun h1 => ?_) (fun h1 => by rw [e1 h1]; exact rO_n hW (Nat.one_ne_zero) rfl)
  refine z_aload_n dX5_addFormat_4 rfl rfl ?_
  refine z_getfield dX5_addFormat_5 fg_RX5_10 (by assumption) rfl ?_
  refine z_ivI dX5_addFormat_8 cv_RX5_34 hW.fmts (c_X1_isFull g hW hf) ⟨⟨by decide, by decide⟩, (by first | exact Nat.zero_le _ | decide | omega), (by first | exact Nat.zero_le _ | decide | omega)⟩ rfl rfl (Nat.le_of_ble_eq_true rfl) ?_
  refine z_if_eq (tgt := 24) dX5_addFormat_11 (by decide) (fun h11 => ?_) (fun h11 => ?_)
  · refine z_aload_n dX5_addFormat_24 rfl rfl ?_
    refine z_getfield dX5_addFormat_25 fg_RX5_10 (by assumption) rfl ?_
    refine z_iload_n dX5_addFormat_28 rfl ?_
    refine z_ivQ dX5_addFormat_29 cv_RX5_45 hW.fmts (c_X1_add g hW (by have := of_decide_eq_false (nf h11); omega) r) ⟨⟨by decide, by decide⟩, (by first | exact Nat.zero_le _ | decide | omega), (by first | exact Nat.zero_le _ | decide | omega)⟩ rfl rfl (Nat.le_of_ble_eq_true rfl) (fun M29 hQ29 => ?_)
    refine z_ireturn dX5_addFormat_32 rfl (by first | rfl | exact bI_nar _) ?_
    have e : o_addFormat σ r = (0, nI σ.fo, (σ.si 0 σ.fo r).sn 0 (σ.fo + 1)) := by unfold o_addFormat; rw [if_pos h1, if_neg (of_decide_eq_false (nf h11))]
    rw [e]
    exact rO_y hQ29 rfl rfl
  · have e : o_addFormat σ r = (2, nI 0, σ) := by unfold o_addFormat; rw [if_pos h1, if_pos (of_decide_eq_true (yt h11))]
    rw [e]
    exact z_throw (thk_IS (is := 40) (text := "no room for another format") (List.mem_of_getElem? (i := 0) rfl)) dX5_addFormat_14 dX5_addFormat_17 dX5_addFormat_18 dX5_addFormat_20 dX5_addFormat_23 rfl ⟨by decide, by decide, by first | decide | omega, by first | decide | omega⟩ (Nat.le_of_ble_eq_true rfl) (rO_n hW (Nat.succ_ne_zero 1) rfl)
theorem c_X5_setRisk (hW : W2 g A σ ρ x M) (hf : σ.fo ≤ 8) (f r : Int32) : con g mX5_setRisk 2 12 [.ref (A 0 0), .int f, .int r] M (rO (o_setRisk σ f r) (eX xIA xIO xIO) (W2 g A (o_setRisk σ f r).2.2 ρ x)) := by
  refine con_i ?_ (by decide) rfl rfl (by simp [lv_args, Value.category]) (by simp [lv_args, lnd, Value.category])
  have hA := hW.hall
  have e1 : inK 0 100 r = false → o_setRisk σ f r = (1, nI 0, σ) := fun h => by unfold o_setRisk; rw [if_neg (by rw [h]; decide)]
  have e2 : inK 0 100 r = true → inR σ.fo f = false → o_setRisk σ f r = (2, nI 0, σ) := fun h h' => by unfold o_setRisk; rw [if_pos h, if_neg (by rw [h']; decide)]
  refine z_iload_n dX5_setRisk_0 rfl ?_
  refine z_isB dX5_setRisk_1 cs_RX5_30 (c_X5_requireRisk g r) ⟨⟨by decide, by decide⟩, (by first | exact Nat.zero_le _ | decide | omega), (by first | exact Nat.zero_le _ | decide | omega)⟩ rfl rfl (Nat.le_of_ble_eq_true rfl) rfl (fun h1 => ?_) (fun h1 => by rw [e1 h1]; exact rO_n hW (Nat.one_ne_zero) rfl)
  refine z_aload_n dX5_setRisk_4 rfl rfl ?_
  refine z_iload_n dX5_setRisk_5 rfl ?_
  refine z_ivB dX5_setRisk_6 cv_RX5_49 hA (c_X5_requireFormat g hW hf f) ⟨⟨by decide, by decide⟩, (by first | exact Nat.zero_le _ | decide | omega), (by first | exact Nat.zero_le _ | decide | omega)⟩ rfl rfl (Nat.le_of_ble_eq_true rfl) rfl (fun h6 => ?_) (fun h6 => by rw [e2 h1 h6]; exact rO_n hW (Nat.succ_ne_zero 1) rfl)
  obtain ⟨ef, lf⟩ := inR_of (by omega) h6
  have hcon := c_X1_exchangeRisk g hW hf lf r
  rw [← ef] at hcon
  refine z_aload_n dX5_setRisk_9 rfl rfl ?_
  refine z_getfield dX5_setRisk_10 fg_RX5_10 (by assumption) rfl ?_
  refine z_iload_n dX5_setRisk_13 rfl ?_
  refine z_iload_n dX5_setRisk_14 rfl ?_
  refine z_ivQ dX5_setRisk_15 cv_RX5_52 hW.fmts (hcon) ⟨⟨by decide, by decide⟩, (by first | exact Nat.zero_le _ | decide | omega), (by first | exact Nat.zero_le _ | decide | omega)⟩ rfl rfl (Nat.le_of_ble_eq_true rfl) (fun M15 hQ15 => ?_)
  refine z_ireturn dX5_setRisk_18 rfl (by first | rfl | exact bI_nar _) ?_
  have e : o_setRisk σ f r = (0, σ.i 0 (tN f), σ.si 0 (tN f) r) := by unfold o_setRisk; rw [if_pos h1, if_pos h6]
  rw [e]
  exact rO_y hQ15 rfl rfl
theorem c_X5_bestWay (hW : W2 g A σ ρ x M) (hL : LI σ) (a b : Int32) : con g mX5_bestWay 2 12 [.ref (A 0 0), .int a, .int b] M (rO (o_bestWay σ a b) (eX xIO xIO xIO) (fun M' => ∃ f, W2 g A (o_bestWay σ a b).2.2 ρ (x.srch f) M')) := by
  refine con_i ?_ (by decide) rfl rfl (by simp [lv_args, Value.category]) (by simp [lv_args, lnd, Value.category])
  have hA := hW.hall
  have hf := hL.1
  have en : ¬ (inR σ.fo a = true ∧ inR σ.fo b = true) → o_bestWay σ a b = (1, nI 0, σ) := fun h => by unfold o_bestWay; rw [if_neg h]
  refine z_aload_n dX5_bestWay_0 rfl rfl ?_
  refine z_iload_n dX5_bestWay_1 rfl ?_
  refine z_ivB dX5_bestWay_2 cv_RX5_49 hA (c_X5_requireFormat g hW hf a) ⟨⟨by decide, by decide⟩, (by first | exact Nat.zero_le _ | decide | omega), (by first | exact Nat.zero_le _ | decide | omega)⟩ rfl rfl (Nat.le_of_ble_eq_true rfl) rfl (fun h2 => ?_) (fun h2 => by rw [en (fun q => by rw [h2] at q; cases q.1)]; exact rO_n ⟨x.rch, hW⟩ (Nat.one_ne_zero) rfl)
  refine z_aload_n dX5_bestWay_5 rfl rfl ?_
  refine z_iload_n dX5_bestWay_6 rfl ?_
  refine z_ivB dX5_bestWay_7 cv_RX5_49 hA (c_X5_requireFormat g hW hf b) ⟨⟨by decide, by decide⟩, (by first | exact Nat.zero_le _ | decide | omega), (by first | exact Nat.zero_le _ | decide | omega)⟩ rfl rfl (Nat.le_of_ble_eq_true rfl) rfl (fun h7 => ?_) (fun h7 => by rw [en (fun q => by rw [h7] at q; cases q.2)]; exact rO_n ⟨x.rch, hW⟩ (Nat.one_ne_zero) rfl)
  refine z_aload_n dX5_bestWay_10 rfl rfl ?_
  refine z_getfield dX5_bestWay_11 fg_RX5_10 (by assumption) rfl ?_
  refine z_iload_n dX5_bestWay_14 rfl ?_
  refine z_iload_n dX5_bestWay_15 rfl ?_
  refine z_ivQ dX5_bestWay_16 cv_RX5_71 hW.fmts (c_X1_bestCost g hL hW a b) ⟨⟨by decide, by decide⟩, (by first | exact Nat.zero_le _ | decide | omega), (by first | exact Nat.zero_le _ | decide | omega)⟩ rfl rfl (Nat.le_of_ble_eq_true rfl) (fun M16 hQ16 => ?_)
  refine z_ireturn dX5_bestWay_19 rfl (by first | rfl | exact bI_nar _) ?_
  have e : o_bestWay σ a b = (0, way σ (tN a) (tN b), σ) := by unfold o_bestWay; rw [if_pos ⟨h2, h7⟩]
  rw [e]
  exact rO_y hQ16 rfl (by unfold bstC; rw [if_pos ⟨h2, h7⟩])
theorem c_X5_units (hW : W2 g A σ ρ x M) (hw : WF σ) (hC : CAP σ) (hN : ND σ) : con g mX5_units 0 0 [.ref (A 0 0)] M (rI (nI (unn σ σ.un)) M) := by
  refine con_i ?_ (by decide) rfl rfl (by simp [lv_args, Value.category]) (by simp [lv_args, lnd, Value.category])
  have hA := hW.hall
  refine z_aload_n dX5_units_0 rfl rfl ?_
  refine z_getfield dX5_units_1 fg_RX5_19 (by assumption) rfl ?_
  refine z_ivI dX5_units_4 cv_RX5_173 hW.store (c_X2_countUnits g hW hw hC hN) ⟨⟨by decide, by decide⟩, (by first | exact Nat.zero_le _ | decide | omega), (by first | exact Nat.zero_le _ | decide | omega)⟩ rfl rfl (Nat.le_of_ble_eq_true rfl) ?_
  refine z_ireturn dX5_units_7 rfl (by first | rfl | exact bI_nar _) ?_
  exact rI_of (by first | rfl | assumption | simp_all)
theorem c_X5_lacking (hW : W2 g A σ ρ x M) (hw : WF σ) (hC : CAP σ) (hN : ND σ) (h5 : ∀ u, u < σ.un → σ.a 5 u < 2 ^ 30) : con g mX5_lacking 0 0 [.ref (A 0 0)] M (rI (nI (lkn σ σ.un)) M) := by
  refine con_i ?_ (by decide) rfl rfl (by simp [lv_args, Value.category]) (by simp [lv_args, lnd, Value.category])
  have hA := hW.hall
  refine z_aload_n dX5_lacking_0 rfl rfl ?_
  refine z_getfield dX5_lacking_1 fg_RX5_19 (by assumption) rfl ?_
  refine z_ivI dX5_lacking_4 cv_RX5_223 hW.store (c_X2_countLacking g hW hw hC hN h5) ⟨⟨by decide, by decide⟩, (by first | exact Nat.zero_le _ | decide | omega), (by first | exact Nat.zero_le _ | decide | omega)⟩ rfl rfl (Nat.le_of_ble_eq_true rfl) ?_
  refine z_ireturn dX5_lacking_7 rfl (by first | rfl | exact bI_nar _) ?_
  exact rI_of (by first | rfl | assumption | simp_all)
theorem c_X5_sites (hW : W2 g A σ ρ x M) (hw : WF σ) (hC : CAP σ) (hN : ND σ) (u : Int32) : con g mX5_sites 1 6 [.ref (A 0 0), .int u] M (rO (o_sites σ u) (eX xIO xIO xIO) (W2 g A (o_sites σ u).2.2 ρ x)) := by
  refine con_i ?_ (by decide) rfl rfl (by simp [lv_args, Value.category]) (by simp [lv_args, lnd, Value.category])
  have hA := hW.hall
  have h100 := hw.1.2
  refine z_aload_n dX5_sites_0 rfl rfl ?_
  refine z_iload_n dX5_sites_1 rfl ?_
  refine z_ivB dX5_sites_2 cv_RX5_176 hA (c_X5_unitAt g hW hw hC hN u) ⟨⟨by decide, by decide⟩, (by first | exact Nat.zero_le _ | decide | omega), (by first | exact Nat.zero_le _ | decide | omega)⟩ rfl rfl (Nat.le_of_ble_eq_true rfl) rfl (fun h2 => ?_) (fun h2 => by unfold o_sites; rw [if_neg (by rw [h2]; decide)]; exact rO_n hW (Nat.one_ne_zero) rfl)
  have lu : tN u < σ.un := (inR_of (by omega) (by unfold isU at h2; rw [Bool.and_eq_true] at h2; exact h2.1)).2
  refine z_ivI dX5_sites_5 cv_RX5_180 (hW.unit lu) (c_X3_siteSet g hW lu) ⟨⟨by decide, by decide⟩, (by first | exact Nat.zero_le _ | decide | omega), (by first | exact Nat.zero_le _ | decide | omega)⟩ rfl rfl (Nat.le_of_ble_eq_true rfl) ?_
  refine z_ireturn dX5_sites_8 rfl (by first | rfl | exact bI_nar _) ?_
  unfold o_sites
  rw [if_pos h2]
  exact rO_y hW rfl rfl
theorem c_X5_sound (hW : W2 g A σ ρ x M) (hw : WF σ) (hC : CAP σ) (hN : ND σ) (u : Int32) : con g mX5_sound 1 6 [.ref (A 0 0), .int u] M (rO (o_sound σ u) (eX xIO xIO xIO) (W2 g A (o_sound σ u).2.2 ρ x)) := by
  refine con_i ?_ (by decide) rfl rfl (by simp [lv_args, Value.category]) (by simp [lv_args, lnd, Value.category])
  have hA := hW.hall
  have h100 := hw.1.2
  refine z_aload_n dX5_sound_0 rfl rfl ?_
  refine z_iload_n dX5_sound_1 rfl ?_
  refine z_ivB dX5_sound_2 cv_RX5_176 hA (c_X5_unitAt g hW hw hC hN u) ⟨⟨by decide, by decide⟩, (by first | exact Nat.zero_le _ | decide | omega), (by first | exact Nat.zero_le _ | decide | omega)⟩ rfl rfl (Nat.le_of_ble_eq_true rfl) rfl (fun h2 => ?_) (fun h2 => by unfold o_sound; rw [if_neg (by rw [h2]; decide)]; exact rO_n hW (Nat.one_ne_zero) rfl)
  have lu : tN u < σ.un := (inR_of (by omega) (by unfold isU at h2; rw [Bool.and_eq_true] at h2; exact h2.1)).2
  refine z_ivI dX5_sound_5 cv_RX5_183 (hW.unit lu) (c_X3_countSound g hW lu) ⟨⟨by decide, by decide⟩, (by first | exact Nat.zero_le _ | decide | omega), (by first | exact Nat.zero_le _ | decide | omega)⟩ rfl rfl (Nat.le_of_ble_eq_true rfl) ?_
  refine z_ireturn dX5_sound_8 rfl (by first | rfl | exact bI_nar _) ?_
  unfold o_sound
  rw [if_pos h2]
  exact rO_y hW rfl rfl
theorem c_X5_versions (hW : W2 g A σ ρ x M) (hw : WF σ) (hC : CAP σ) (o : Int32) : con g mX5_versions 1 6 [.ref (A 0 0), .int o] M (rO (o_versions σ o) (eX xIO xIO xIO) (W2 g A (o_versions σ o).2.2 ρ x)) := by
  refine con_i ?_ (by decide) rfl rfl (by simp [lv_args, Value.category]) (by simp [lv_args, lnd, Value.category])
  have hA := hW.hall
  have h10 := hw.1.1
  refine z_aload_n dX5_versions_0 rfl rfl ?_
  refine z_iload_n dX5_versions_1 rfl ?_
  refine z_ivB dX5_versions_2 cv_RX5_100 hA (c_X5_objectAt g hW hw hC o) ⟨⟨by decide, by decide⟩, (by first | exact Nat.zero_le _ | decide | omega), (by first | exact Nat.zero_le _ | decide | omega)⟩ rfl rfl (Nat.le_of_ble_eq_true rfl) rfl (fun h2 => ?_) (fun h2 => by unfold o_versions; rw [if_neg (by rw [h2]; decide)]; exact rO_n hW (Nat.one_ne_zero) rfl)
  have lo := (inR_of (by omega) h2).2
  refine z_ivI dX5_versions_5 cv_RX5_154 (hW.dob lo) (c_X0_versionSet g hW hw hC lo) ⟨⟨by decide, by decide⟩, (by first | exact Nat.zero_le _ | decide | omega), (by first | exact Nat.zero_le _ | decide | omega)⟩ rfl rfl (Nat.le_of_ble_eq_true rfl) ?_
  refine z_ireturn dX5_versions_8 rfl (by first | rfl | exact bI_nar _) ?_
  unfold o_versions
  rw [if_pos h2]
  exact rO_y hW rfl rfl
theorem c_X5_unitOf (hW : W2 g A σ ρ x M) (hw : WF σ) (hC : CAP σ) (o v : Int32) : con g mX5_unitOf 2 12 [.ref (A 0 0), .int o, .int v] M (rO (o_unitOf σ o v) (eX xIO xIO xIO) (W2 g A (o_unitOf σ o v).2.2 ρ x)) := by
  refine con_i ?_ (by decide) rfl rfl (by simp [lv_args, Value.category]) (by simp [lv_args, lnd, Value.category])
  have hA := hW.hall
  have h10 := hw.1.1
  have en : ¬ isV σ o v = true → o_unitOf σ o v = (1, nI 0, σ) := fun h => by unfold o_unitOf; rw [if_neg h]
  refine z_aload_n dX5_unitOf_0 rfl rfl ?_
  refine z_iload_n dX5_unitOf_1 rfl ?_
  refine z_ivB dX5_unitOf_2 cv_RX5_100 hA (c_X5_objectAt g hW hw hC o) ⟨⟨by decide, by decide⟩, (by first | exact Nat.zero_le _ | decide | omega), (by first | exact Nat.zero_le _ | decide | omega)⟩ rfl rfl (Nat.le_of_ble_eq_true rfl) rfl (fun h2 => ?_) (fun h2 => by rw [en (fun q => by unfold isV at q; rw [h2] at q; cases q)]; exact rO_n hW (Nat.one_ne_zero) rfl)
  have lo := (inR_of (by omega) h2).2
  refine z_iload_n dX5_unitOf_5 rfl ?_
  refine z_isB dX5_unitOf_6 cs_RX5_138 (c_X5_versionAt g hW hw hC lo v) ⟨⟨by decide, by decide⟩, (by first | exact Nat.zero_le _ | decide | omega), (by first | exact Nat.zero_le _ | decide | omega)⟩ rfl rfl (Nat.le_of_ble_eq_true rfl) rfl (fun h6 => ?_) (fun h6 => by rw [en (fun q => by unfold isV at q; rw [h2, h6] at q; cases q)]; exact rO_n hW (Nat.one_ne_zero) rfl)
  have hV : isV σ o v = true := by unfold isV; rw [h2, h6]; rfl
  have hvk := (isV_of hw hV).2.2.2
  have hu := (hw.2.2.1 _ hvk).1
  refine z_getfield dX5_unitOf_9 fg_RX5_157 (hW.ver hvk) rfl ?_
  refine z_getfield dX5_unitOf_12 fg_RX5_161 (hW.unit hu) rfl ?_
  refine z_ireturn dX5_unitOf_15 rfl (by first | rfl | exact bI_nar _) ?_
  unfold o_unitOf
  rw [if_pos hV]
  exact rO_y hW rfl rfl
theorem c_X5_read (hW : W2 g A σ ρ x M) (hw : WF σ) (hC : CAP σ) (o v : Int32) : con g mX5_read 3 18 [.ref (A 0 0), .int o, .int v] M (rO (o_read σ o v) (eX xIO xIS xIS) (W2 g A (o_read σ o v).2.2 ρ x)) := by
  refine con_i ?_ (by decide) rfl rfl (by simp [lv_args, Value.category]) (by simp [lv_args, lnd, Value.category])
  have hA := hW.hall
  have h10 := hw.1.1
  have en : ¬ isV σ o v = true → o_read σ o v = (1, nI 0, σ) := fun h => by unfold o_read; rw [if_neg h]
  refine z_aload_n dX5_read_0 rfl rfl ?_
  refine z_iload_n dX5_read_1 rfl ?_
  refine z_ivB dX5_read_2 cv_RX5_100 hA (c_X5_objectAt g hW hw hC o) ⟨⟨by decide, by decide⟩, (by first | exact Nat.zero_le _ | decide | omega), (by first | exact Nat.zero_le _ | decide | omega)⟩ rfl rfl (Nat.le_of_ble_eq_true rfl) rfl (fun h2 => ?_) (fun h2 => by rw [en (fun q => by unfold isV at q; rw [h2] at q; cases q)]; exact rO_n hW (Nat.one_ne_zero) rfl)
  have lo := (inR_of (by omega) h2).2
  refine z_iload_n dX5_read_5 rfl ?_
  refine z_isB dX5_read_6 cs_RX5_138 (c_X5_versionAt g hW hw hC lo v) ⟨⟨by decide, by decide⟩, (by first | exact Nat.zero_le _ | decide | omega), (by first | exact Nat.zero_le _ | decide | omega)⟩ rfl rfl (Nat.le_of_ble_eq_true rfl) rfl (fun h6 => ?_) (fun h6 => by rw [en (fun q => by unfold isV at q; rw [h2, h6] at q; cases q)]; exact rO_n hW (Nat.one_ne_zero) rfl)
  have hV : isV σ o v = true := by unfold isV; rw [h2, h6]; rfl
  have hvk := (isV_of hw hV).2.2.2
  refine z_astore_n dX5_read_9 (by decide) rfl ?_
  refine z_aload_n dX5_read_10 rfl rfl ?_
  refine z_isB dX5_read_11 cs_RX5_128 (c_X5_requireReadable g hW hw hvk) ⟨⟨by decide, by decide⟩, (by first | exact Nat.zero_le _ | decide | omega), (by first | exact Nat.zero_le _ | decide | omega)⟩ rfl rfl (Nat.le_of_ble_eq_true rfl) rfl (fun h11 => ?_) (fun h11 => by unfold o_read; rw [if_pos hV, if_neg (by rw [h11]; decide)]; exact rO_n hW (Nat.succ_ne_zero 1) rfl)
  refine z_aload_n dX5_read_14 rfl rfl ?_
  refine z_ivI dX5_read_15 cv_RX5_132 (hW.ver hvk) (c_X4_sumOfGoodValues g hW hw hvk h11) ⟨⟨by decide, by decide⟩, (by first | exact Nat.zero_le _ | decide | omega), (by first | exact Nat.zero_le _ | decide | omega)⟩ rfl rfl (Nat.le_of_ble_eq_true rfl) ?_
  refine z_ireturn dX5_read_18 rfl (by first | rfl | exact bI_nar _) ?_
  unfold o_read
  rw [if_pos hV, if_pos h11]
  exact rO_y hW rfl rfl
end OPS
