/-! the law's seventeen helpers -/
section LAWH
variable (g : GG) {A : Nat → Nat → Nat} {B : Nat} {σ ρ : ST} {x : XT} {M : Mem}
theorem l_addFormat (hI : INV B σ) (hB : 2000000 ≤ B ∧ B + 1000 < 2147483648) (hW : W2 g A σ ρ x M) (p0 : Int32) : con g mL_addFormat 2 12 [.ref (A 0 0), .int p0, .ref (A 22 0)] M (rQ (some (.int (nI (o_addFormat σ p0).1))) (LQ g A B σ ρ x (o_addFormat σ p0) NN)) := by
  refine con_h ?_ (by decide) rfl rfl (by simp [lv_args, Value.category]) (by simp [lv_args, lnd, Value.category])
  have hA := hW.hall
  have hk := k_addFormat g hI  hW p0
  have hoc := oc_addFormat σ p0
  refine z_aload_n dL_addFormat_0 rfl rfl ?_
  refine z_ic ki_0 dL_addFormat_1 ?_
  refine z_aload_n dL_addFormat_2 rfl rfl ?_
  refine z_iload_n dL_addFormat_3 rfl ?_
  refine z_ivO dL_addFormat_4 cv_RL_7 hA hk ⟨⟨by decide, by decide⟩, Nat.le_refl _, Nat.le_refl _⟩ rfl rfl (Nat.le_of_ble_eq_true rfl) (fun M4 hQ4 h04 => ?_) (fun M4 hQ4 h04 => ?_)
  refine z_i2l dL_addFormat_7 ?_
  refine z_lastore dL_addFormat_8 hQ4.out rfl (by decide) (by decide) ?_
  refine z_goto (tgt := 18) dL_addFormat_9 (by decide) ?_
  refine z_ic ki_0 dL_addFormat_18 ?_
  refine z_ireturn dL_addFormat_19 rfl (by first | rfl | exact bI_nar _) ?_
  exact ⟨by rw [h04], hQ4.ans rfl⟩
  have hcs : (o_addFormat σ p0).1 = 1 ∨ (o_addFormat σ p0).1 = 2 := by omega
  rcases hcs with hcs | hcs
  · rw [hcs]
    refine x_catch (E := xIA) [] (0, 9, 12, 13) [(0, 9, 15, 15)] rfl (fun z hz => (List.not_mem_nil hz).elim) ⟨by decide, by decide⟩ (by decide) cl_13 cst_xIA (fun q => ?_)
    refine z_astore_n dL_addFormat_12 (by decide) rfl ?_
    refine z_ic ki_1 dL_addFormat_13 ?_
    refine z_ireturn dL_addFormat_14 rfl (by first | rfl | exact bI_nar _) ?_
    exact ⟨rfl, hQ4.thr h04⟩
  · rw [hcs]
    refine x_catch (E := xIS) [(0, 9, 12, 13)] (0, 9, 15, 15) [] rfl (fun z hz => by rw [List.mem_singleton.mp hz]; exact ⟨xIA, by decide, cl_13, List.mem_of_getElem? (i := 2) rfl⟩) ⟨by decide, by decide⟩ (by decide) cl_15 cst_xIS (fun q => ?_)
    refine z_astore_n dL_addFormat_15 (by decide) rfl ?_
    refine z_ic ki_2 dL_addFormat_16 ?_
    refine z_ireturn dL_addFormat_17 rfl (by first | rfl | exact bI_nar _) ?_
    exact ⟨rfl, hQ4.thr h04⟩
theorem l_setRisk (hI : INV B σ) (hB : 2000000 ≤ B ∧ B + 1000 < 2147483648) (hW : W2 g A σ ρ x M) (p0 : Int32) (p1 : Int32) : con g mL_setRisk 2 12 [.ref (A 0 0), .int p0, .int p1, .ref (A 22 0)] M (rQ (some (.int (nI (o_setRisk σ p0 p1).1))) (LQ g A B σ ρ x (o_setRisk σ p0 p1) NN)) := by
  refine con_h ?_ (by decide) rfl rfl (by simp [lv_args, Value.category]) (by simp [lv_args, lnd, Value.category])
  have hA := hW.hall
  have hk := k_setRisk g hI  hW p0 p1
  have hoc := oc_setRisk σ p0 p1
  refine z_aload_n dL_setRisk_0 rfl rfl ?_
  refine z_ic ki_0 dL_setRisk_1 ?_
  refine z_aload_n dL_setRisk_2 rfl rfl ?_
  refine z_iload_n dL_setRisk_3 rfl ?_
  refine z_iload_n dL_setRisk_4 rfl ?_
  refine z_ivO dL_setRisk_5 cv_RL_17 hA hk ⟨⟨by decide, by decide⟩, Nat.le_refl _, Nat.le_refl _⟩ rfl rfl (Nat.le_of_ble_eq_true rfl) (fun M5 hQ5 h05 => ?_) (fun M5 hQ5 h05 => ?_)
  refine z_i2l dL_setRisk_8 ?_
  refine z_lastore dL_setRisk_9 hQ5.out rfl (by decide) (by decide) ?_
  refine z_goto (tgt := 21) dL_setRisk_10 (by decide) ?_
  refine z_ic ki_0 dL_setRisk_21 ?_
  refine z_ireturn dL_setRisk_22 rfl (by first | rfl | exact bI_nar _) ?_
  exact ⟨by rw [h05], hQ5.ans rfl⟩
  have hcs : (o_setRisk σ p0 p1).1 = 1 ∨ (o_setRisk σ p0 p1).1 = 2 := by omega
  rcases hcs with hcs | hcs
  · rw [hcs]
    refine x_catch (E := xIA) [] (0, 10, 13, 13) [(0, 10, 17, 21)] rfl (fun z hz => (List.not_mem_nil hz).elim) ⟨by decide, by decide⟩ (by decide) cl_13 cst_xIA (fun q => ?_)
    refine z_astore dL_setRisk_13 (by decide) rfl ?_
    refine z_ic ki_1 dL_setRisk_15 ?_
    refine z_ireturn dL_setRisk_16 rfl (by first | rfl | exact bI_nar _) ?_
    exact ⟨rfl, hQ5.thr h05⟩
  · rw [hcs]
    refine x_catch (E := xIO) [(0, 10, 13, 13)] (0, 10, 17, 21) [] rfl (fun z hz => by rw [List.mem_singleton.mp hz]; exact ⟨xIA, by decide, cl_13, List.mem_of_getElem? (i := 4) rfl⟩) ⟨by decide, by decide⟩ (by decide) cl_21 cst_xIO (fun q => ?_)
    refine z_astore dL_setRisk_17 (by decide) rfl ?_
    refine z_ic ki_2 dL_setRisk_19 ?_
    refine z_ireturn dL_setRisk_20 rfl (by first | rfl | exact bI_nar _) ?_
    exact ⟨rfl, hQ5.thr h05⟩
theorem l_addConversion (hI : INV B σ) (hB : 2000000 ≤ B ∧ B + 1000 < 2147483648) (hW : W2 g A σ ρ x M) (p0 : Int32) (p1 : Int32) (p2 : Int32) : con g mL_addConversion 3 18 [.ref (A 0 0), .int p0, .int p1, .int p2, .ref (A 22 0)] M (rQ (some (.int (nI (o_addConversion σ p0 p1 p2).1))) (LQ g A B σ ρ x (o_addConversion σ p0 p1 p2) NN)) := by
  refine con_h ?_ (by decide) rfl rfl (by simp [lv_args, Value.category]) (by simp [lv_args, lnd, Value.category])
  have hA := hW.hall
  have hk := k_addConversion g hI  hW p0 p1 p2
  have hoc := oc_addConversion σ p0 p1 p2
  refine z_aload dL_addConversion_0 rfl rfl ?_
  refine z_ic ki_0 dL_addConversion_2 ?_
  refine z_aload_n dL_addConversion_3 rfl rfl ?_
  refine z_iload_n dL_addConversion_4 rfl ?_
  refine z_iload_n dL_addConversion_5 rfl ?_
  refine z_iload_n dL_addConversion_6 rfl ?_
  refine z_ivO dL_addConversion_7 cv_RL_23 hA hk ⟨⟨by decide, by decide⟩, Nat.le_refl _, Nat.le_refl _⟩ rfl rfl (Nat.le_of_ble_eq_true rfl) (fun M7 hQ7 h07 => ?_) (fun M7 hQ7 h07 => ?_)
  refine z_i2l dL_addConversion_10 ?_
  refine z_lastore dL_addConversion_11 hQ7.out rfl (by decide) (by decide) ?_
  refine z_goto (tgt := 23) dL_addConversion_12 (by decide) ?_
  refine z_ic ki_0 dL_addConversion_23 ?_
  refine z_ireturn dL_addConversion_24 rfl (by first | rfl | exact bI_nar _) ?_
  exact ⟨by rw [h07], hQ7.ans rfl⟩
  have hcs : (o_addConversion σ p0 p1 p2).1 = 1 ∨ (o_addConversion σ p0 p1 p2).1 = 2 := by omega
  rcases hcs with hcs | hcs
  · rw [hcs]
    refine x_catch (E := xIA) [] (0, 12, 15, 13) [(0, 12, 19, 21)] rfl (fun z hz => (List.not_mem_nil hz).elim) ⟨by decide, by decide⟩ (by decide) cl_13 cst_xIA (fun q => ?_)
    refine z_astore dL_addConversion_15 (by decide) rfl ?_
    refine z_ic ki_1 dL_addConversion_17 ?_
    refine z_ireturn dL_addConversion_18 rfl (by first | rfl | exact bI_nar _) ?_
    exact ⟨rfl, hQ7.thr h07⟩
  · rw [hcs]
    refine x_catch (E := xIO) [(0, 12, 15, 13)] (0, 12, 19, 21) [] rfl (fun z hz => by rw [List.mem_singleton.mp hz]; exact ⟨xIA, by decide, cl_13, List.mem_of_getElem? (i := 4) rfl⟩) ⟨by decide, by decide⟩ (by decide) cl_21 cst_xIO (fun q => ?_)
    refine z_astore dL_addConversion_19 (by decide) rfl ?_
    refine z_ic ki_2 dL_addConversion_21 ?_
    refine z_ireturn dL_addConversion_22 rfl (by first | rfl | exact bI_nar _) ?_
    exact ⟨rfl, hQ7.thr h07⟩
theorem l_bestWay (hI : INV B σ) (hB : 2000000 ≤ B ∧ B + 1000 < 2147483648) (hW : W2 g A σ ρ x M) (p0 : Int32) (p1 : Int32) : con g mL_bestWay 2 12 [.ref (A 0 0), .int p0, .int p1, .ref (A 22 0)] M (rQ (some (.int (nI (o_bestWay σ p0 p1).1))) (LQ g A B σ ρ x (o_bestWay σ p0 p1) NN)) := by
  refine con_h ?_ (by decide) rfl rfl (by simp [lv_args, Value.category]) (by simp [lv_args, lnd, Value.category])
  have hA := hW.hall
  have hk := k_bestWay g hI  hW p0 p1
  have hoc := oc_bestWay σ p0 p1
  refine z_aload_n dL_bestWay_0 rfl rfl ?_
  refine z_ic ki_0 dL_bestWay_1 ?_
  refine z_aload_n dL_bestWay_2 rfl rfl ?_
  refine z_iload_n dL_bestWay_3 rfl ?_
  refine z_iload_n dL_bestWay_4 rfl ?_
  refine z_ivO dL_bestWay_5 cv_RL_27 hA hk ⟨⟨by decide, by decide⟩, Nat.le_refl _, Nat.le_refl _⟩ rfl rfl (Nat.le_of_ble_eq_true rfl) (fun M5 hQ5 h05 => ?_) (fun M5 hQ5 h05 => ?_)
  refine z_i2l dL_bestWay_8 ?_
  refine z_lastore dL_bestWay_9 hQ5.out rfl (by decide) (by decide) ?_
  refine z_goto (tgt := 17) dL_bestWay_10 (by decide) ?_
  refine z_ic ki_0 dL_bestWay_17 ?_
  refine z_ireturn dL_bestWay_18 rfl (by first | rfl | exact bI_nar _) ?_
  exact ⟨by rw [h05], hQ5.ans rfl⟩
  have hcs : (o_bestWay σ p0 p1).1 = 1 := by omega
  rw [hcs]
  refine x_catch (E := xIO) [] (0, 10, 13, 21) [] rfl (fun z hz => (List.not_mem_nil hz).elim) ⟨by decide, by decide⟩ (by decide) cl_21 cst_xIO (fun q => ?_)
  refine z_astore dL_bestWay_13 (by decide) rfl ?_
  refine z_ic ki_1 dL_bestWay_15 ?_
  refine z_ireturn dL_bestWay_16 rfl (by first | rfl | exact bI_nar _) ?_
  exact ⟨rfl, hQ5.thr h05⟩
theorem l_deposit (hI : INV B σ) (hB : 2000000 ≤ B ∧ B + 1000 < 2147483648) (hW : W2 g A σ ρ x M) (p0 : Int32) (p1 : Int32) (p2 : Int32) : con g mL_deposit 11 500 [.ref (A 0 0), .int p0, .int p1, .int p2, .ref (A 22 0)] M (rQ (some (.int (nI (o_deposit σ p0 p1 p2).1))) (LQ g A B σ ρ x (o_deposit σ p0 p1 p2) (ND0 (o_deposit σ p0 p1 p2) σ))) := by
  refine con_h ?_ (by decide) rfl rfl (by simp [lv_args, Value.category]) (by simp [lv_args, lnd, Value.category])
  have hA := hW.hall
  have hk := k_deposit g hI ⟨hB.1, by omega⟩ hW p0 p1 p2
  have hoc := oc_deposit σ p0 p1 p2
  refine z_aload dL_deposit_0 rfl rfl ?_
  refine z_ic ki_0 dL_deposit_2 ?_
  refine z_aload_n dL_deposit_3 rfl rfl ?_
  refine z_iload_n dL_deposit_4 rfl ?_
  refine z_iload_n dL_deposit_5 rfl ?_
  refine z_iload_n dL_deposit_6 rfl ?_
  refine z_ivO dL_deposit_7 cv_RL_30 hA hk ⟨⟨by decide, by decide⟩, Nat.le_refl _, Nat.le_refl _⟩ rfl rfl (Nat.le_of_ble_eq_true rfl) (fun M7 hQ7 h07 => ?_) (fun M7 hQ7 h07 => ?_)
  refine z_i2l dL_deposit_10 ?_
  refine z_lastore dL_deposit_11 hQ7.out rfl (by decide) (by decide) ?_
  refine z_goto (tgt := 27) dL_deposit_12 (by decide) ?_
  refine z_ic ki_0 dL_deposit_27 ?_
  refine z_ireturn dL_deposit_28 rfl (by first | rfl | exact bI_nar _) ?_
  exact ⟨by rw [h07], hQ7.ans rfl⟩
  have hcs : (o_deposit σ p0 p1 p2).1 = 1 ∨ (o_deposit σ p0 p1 p2).1 = 2 ∨ (o_deposit σ p0 p1 p2).1 = 3 := by omega
  rcases hcs with hcs | hcs | hcs
  · rw [hcs]
    refine x_catch (E := xIA) [] (0, 12, 15, 13) [(0, 12, 19, 21), (0, 12, 23, 15)] rfl (fun z hz => (List.not_mem_nil hz).elim) ⟨by decide, by decide⟩ (by decide) cl_13 cst_xIA (fun q => ?_)
    refine z_astore dL_deposit_15 (by decide) rfl ?_
    refine z_ic ki_1 dL_deposit_17 ?_
    refine z_ireturn dL_deposit_18 rfl (by first | rfl | exact bI_nar _) ?_
    exact ⟨rfl, hQ7.thr h07⟩
  · rw [hcs]
    refine x_catch (E := xIO) [(0, 12, 15, 13)] (0, 12, 19, 21) [(0, 12, 23, 15)] rfl (fun z hz => by rw [List.mem_singleton.mp hz]; exact ⟨xIA, by decide, cl_13, List.mem_of_getElem? (i := 4) rfl⟩) ⟨by decide, by decide⟩ (by decide) cl_21 cst_xIO (fun q => ?_)
    refine z_astore dL_deposit_19 (by decide) rfl ?_
    refine z_ic ki_2 dL_deposit_21 ?_
    refine z_ireturn dL_deposit_22 rfl (by first | rfl | exact bI_nar _) ?_
    exact ⟨rfl, hQ7.thr h07⟩
  · rw [hcs]
    refine x_catch (E := xIS) [(0, 12, 15, 13), (0, 12, 19, 21)] (0, 12, 23, 15) [] rfl (fun z hz => by rcases List.mem_cons.mp hz with rfl | hz; exact ⟨xIA, by decide, cl_13, List.mem_of_getElem? (i := 2) rfl⟩; rw [List.mem_singleton.mp hz]; exact ⟨xIO, by decide, cl_21, List.mem_of_getElem? (i := 3) rfl⟩) ⟨by decide, by decide⟩ (by decide) cl_15 cst_xIS (fun q => ?_)
    refine z_astore dL_deposit_23 (by decide) rfl ?_
    refine z_ic ki_3 dL_deposit_25 ?_
    refine z_ireturn dL_deposit_26 rfl (by first | rfl | exact bI_nar _) ?_
    exact ⟨rfl, hQ7.thr h07⟩
theorem l_revise (hI : INV B σ) (hB : 2000000 ≤ B ∧ B + 1000 < 2147483648) (hW : W2 g A σ ρ x M) (p0 : Int32) (p1 : Int32) (p2 : Bool) : con g mL_revise 9 339 [.ref (A 0 0), .int p0, .int p1, .int (bI p2), .ref (A 22 0)] M (rQ (some (.int (nI (o_revise σ p0 p1 p2).1))) (LQ g A B σ ρ x (o_revise σ p0 p1 p2) (NV (o_revise σ p0 p1 p2) σ (tN p0)))) := by
  refine con_h ?_ (by decide) rfl rfl (by simp [lv_args, Value.category]) (by simp [lv_args, lnd, Value.category])
  have hA := hW.hall
  have hk := k_revise g hI ⟨hB.1, by omega⟩ hW p0 p1 p2
  have hoc := oc_revise σ p0 p1 p2
  refine z_aload dL_revise_0 rfl rfl ?_
  refine z_ic ki_0 dL_revise_2 ?_
  refine z_aload_n dL_revise_3 rfl rfl ?_
  refine z_iload_n dL_revise_4 rfl ?_
  refine z_iload_n dL_revise_5 rfl ?_
  refine z_iload_n dL_revise_6 rfl ?_
  refine z_ivO dL_revise_7 cv_RL_33 hA hk ⟨⟨by decide, by decide⟩, Nat.le_refl _, Nat.le_refl _⟩ rfl rfl (Nat.le_of_ble_eq_true rfl) (fun M7 hQ7 h07 => ?_) (fun M7 hQ7 h07 => ?_)
  refine z_i2l dL_revise_10 ?_
  refine z_lastore dL_revise_11 hQ7.out rfl (by decide) (by decide) ?_
  refine z_goto (tgt := 27) dL_revise_12 (by decide) ?_
  refine z_ic ki_0 dL_revise_27 ?_
  refine z_ireturn dL_revise_28 rfl (by first | rfl | exact bI_nar _) ?_
  exact ⟨by rw [h07], hQ7.ans rfl⟩
  have hcs : (o_revise σ p0 p1 p2).1 = 1 ∨ (o_revise σ p0 p1 p2).1 = 2 ∨ (o_revise σ p0 p1 p2).1 = 3 := by omega
  rcases hcs with hcs | hcs | hcs
  · rw [hcs]
    refine x_catch (E := xIA) [] (0, 12, 15, 13) [(0, 12, 19, 21), (0, 12, 23, 15)] rfl (fun z hz => (List.not_mem_nil hz).elim) ⟨by decide, by decide⟩ (by decide) cl_13 cst_xIA (fun q => ?_)
    refine z_astore dL_revise_15 (by decide) rfl ?_
    refine z_ic ki_1 dL_revise_17 ?_
    refine z_ireturn dL_revise_18 rfl (by first | rfl | exact bI_nar _) ?_
    exact ⟨rfl, hQ7.thr h07⟩
  · rw [hcs]
    refine x_catch (E := xIO) [(0, 12, 15, 13)] (0, 12, 19, 21) [(0, 12, 23, 15)] rfl (fun z hz => by rw [List.mem_singleton.mp hz]; exact ⟨xIA, by decide, cl_13, List.mem_of_getElem? (i := 4) rfl⟩) ⟨by decide, by decide⟩ (by decide) cl_21 cst_xIO (fun q => ?_)
    refine z_astore dL_revise_19 (by decide) rfl ?_
    refine z_ic ki_2 dL_revise_21 ?_
    refine z_ireturn dL_revise_22 rfl (by first | rfl | exact bI_nar _) ?_
    exact ⟨rfl, hQ7.thr h07⟩
  · rw [hcs]
    refine x_catch (E := xIS) [(0, 12, 15, 13), (0, 12, 19, 21)] (0, 12, 23, 15) [] rfl (fun z hz => by rcases List.mem_cons.mp hz with rfl | hz; exact ⟨xIA, by decide, cl_13, List.mem_of_getElem? (i := 2) rfl⟩; rw [List.mem_singleton.mp hz]; exact ⟨xIO, by decide, cl_21, List.mem_of_getElem? (i := 3) rfl⟩) ⟨by decide, by decide⟩ (by decide) cl_15 cst_xIS (fun q => ?_)
    refine z_astore dL_revise_23 (by decide) rfl ?_
    refine z_ic ki_3 dL_revise_25 ?_
    refine z_ireturn dL_revise_26 rfl (by first | rfl | exact bI_nar _) ?_
    exact ⟨rfl, hQ7.thr h07⟩
theorem l_convert (hI : INV B σ) (hB : 2000000 ≤ B ∧ B + 1000 < 2147483648) (hW : W2 g A σ ρ x M) (p0 : Int32) (p1 : Int32) : con g mL_convert 10 345 [.ref (A 0 0), .int p0, .int p1, .ref (A 22 0)] M (rQ (some (.int (nI (o_convert σ p0 p1).1))) (LQ g A B σ ρ x (o_convert σ p0 p1) (NV (o_convert σ p0 p1) σ (tN p0)))) := by
  refine con_h ?_ (by decide) rfl rfl (by simp [lv_args, Value.category]) (by simp [lv_args, lnd, Value.category])
  have hA := hW.hall
  have hk := k_convert g hI ⟨hB.1, by omega⟩ hW p0 p1
  have hoc := oc_convert σ p0 p1
  refine z_aload_n dL_convert_0 rfl rfl ?_
  refine z_ic ki_0 dL_convert_1 ?_
  refine z_aload_n dL_convert_2 rfl rfl ?_
  refine z_iload_n dL_convert_3 rfl ?_
  refine z_iload_n dL_convert_4 rfl ?_
  refine z_ivO dL_convert_5 cv_RL_37 hA hk ⟨⟨by decide, by decide⟩, Nat.le_refl _, Nat.le_refl _⟩ rfl rfl (Nat.le_of_ble_eq_true rfl) (fun M5 hQ5 h05 => ?_) (fun M5 hQ5 h05 => ?_)
  refine z_i2l dL_convert_8 ?_
  refine z_lastore dL_convert_9 hQ5.out rfl (by decide) (by decide) ?_
  refine z_goto (tgt := 21) dL_convert_10 (by decide) ?_
  refine z_ic ki_0 dL_convert_21 ?_
  refine z_ireturn dL_convert_22 rfl (by first | rfl | exact bI_nar _) ?_
  exact ⟨by rw [h05], hQ5.ans rfl⟩
  have hcs : (o_convert σ p0 p1).1 = 1 ∨ (o_convert σ p0 p1).1 = 2 := by omega
  rcases hcs with hcs | hcs
  · rw [hcs]
    refine x_catch (E := xIO) [] (0, 10, 13, 21) [(0, 10, 17, 15)] rfl (fun z hz => (List.not_mem_nil hz).elim) ⟨by decide, by decide⟩ (by decide) cl_21 cst_xIO (fun q => ?_)
    refine z_astore dL_convert_13 (by decide) rfl ?_
    refine z_ic ki_1 dL_convert_15 ?_
    refine z_ireturn dL_convert_16 rfl (by first | rfl | exact bI_nar _) ?_
    exact ⟨rfl, hQ5.thr h05⟩
  · rw [hcs]
    refine x_catch (E := xIS) [(0, 10, 13, 21)] (0, 10, 17, 15) [] rfl (fun z hz => by rw [List.mem_singleton.mp hz]; exact ⟨xIO, by decide, cl_21, List.mem_of_getElem? (i := 3) rfl⟩) ⟨by decide, by decide⟩ (by decide) cl_15 cst_xIS (fun q => ?_)
    refine z_astore dL_convert_17 (by decide) rfl ?_
    refine z_ic ki_2 dL_convert_19 ?_
    refine z_ireturn dL_convert_20 rfl (by first | rfl | exact bI_nar _) ?_
    exact ⟨rfl, hQ5.thr h05⟩
theorem l_purge (hI : INV B σ) (hB : 2000000 ≤ B ∧ B + 1000 < 2147483648) (hW : W2 g A σ ρ x M) (p0 : Int32) (p1 : Int32) : con g mL_purge 3 18 [.ref (A 0 0), .int p0, .int p1, .ref (A 22 0)] M (rQ (some (.int (nI (o_purge σ p0 p1).1))) (LQ g A B σ ρ x (o_purge σ p0 p1) NN)) := by
  refine con_h ?_ (by decide) rfl rfl (by simp [lv_args, Value.category]) (by simp [lv_args, lnd, Value.category])
  have hA := hW.hall
  have hk := k_purge g hI  hW p0 p1
  have hoc := oc_purge σ p0 p1
  refine z_aload_n dL_purge_0 rfl rfl ?_
  refine z_ic ki_0 dL_purge_1 ?_
  refine z_aload_n dL_purge_2 rfl rfl ?_
  refine z_iload_n dL_purge_3 rfl ?_
  refine z_iload_n dL_purge_4 rfl ?_
  refine z_ivO dL_purge_5 cv_RL_40 hA hk ⟨⟨by decide, by decide⟩, Nat.le_refl _, Nat.le_refl _⟩ rfl rfl (Nat.le_of_ble_eq_true rfl) (fun M5 hQ5 h05 => ?_) (fun M5 hQ5 h05 => ?_)
  refine z_i2l dL_purge_8 ?_
  refine z_lastore dL_purge_9 hQ5.out rfl (by decide) (by decide) ?_
  refine z_goto (tgt := 21) dL_purge_10 (by decide) ?_
  refine z_ic ki_0 dL_purge_21 ?_
  refine z_ireturn dL_purge_22 rfl (by first | rfl | exact bI_nar _) ?_
  exact ⟨by rw [h05], hQ5.ans rfl⟩
  have hcs : (o_purge σ p0 p1).1 = 1 ∨ (o_purge σ p0 p1).1 = 2 := by omega
  rcases hcs with hcs | hcs
  · rw [hcs]
    refine x_catch (E := xIO) [] (0, 10, 13, 21) [(0, 10, 17, 15)] rfl (fun z hz => (List.not_mem_nil hz).elim) ⟨by decide, by decide⟩ (by decide) cl_21 cst_xIO (fun q => ?_)
    refine z_astore dL_purge_13 (by decide) rfl ?_
    refine z_ic ki_1 dL_purge_15 ?_
    refine z_ireturn dL_purge_16 rfl (by first | rfl | exact bI_nar _) ?_
    exact ⟨rfl, hQ5.thr h05⟩
  · rw [hcs]
    refine x_catch (E := xIS) [(0, 10, 13, 21)] (0, 10, 17, 15) [] rfl (fun z hz => by rw [List.mem_singleton.mp hz]; exact ⟨xIO, by decide, cl_21, List.mem_of_getElem? (i := 3) rfl⟩) ⟨by decide, by decide⟩ (by decide) cl_15 cst_xIS (fun q => ?_)
    refine z_astore dL_purge_17 (by decide) rfl ?_
    refine z_ic ki_2 dL_purge_19 ?_
    refine z_ireturn dL_purge_20 rfl (by first | rfl | exact bI_nar _) ?_
    exact ⟨rfl, hQ5.thr h05⟩
theorem l_versions (hI : INV B σ) (hB : 2000000 ≤ B ∧ B + 1000 < 2147483648) (hW : W2 g A σ ρ x M) (p0 : Int32) : con g mL_versions 1 6 [.ref (A 0 0), .int p0, .ref (A 22 0)] M (rQ (some (.int (nI (o_versions σ p0).1))) (LQ g A B σ ρ x (o_versions σ p0) NN)) := by
  refine con_h ?_ (by decide) rfl rfl (by simp [lv_args, Value.category]) (by simp [lv_args, lnd, Value.category])
  have hA := hW.hall
  have hk := k_versions g hI  hW p0
  have hoc := oc_versions σ p0
  refine z_aload_n dL_versions_0 rfl rfl ?_
  refine z_ic ki_0 dL_versions_1 ?_
  refine z_aload_n dL_versions_2 rfl rfl ?_
  refine z_iload_n dL_versions_3 rfl ?_
  refine z_ivO dL_versions_4 cv_RL_43 hA hk ⟨⟨by decide, by decide⟩, Nat.le_refl _, Nat.le_refl _⟩ rfl rfl (Nat.le_of_ble_eq_true rfl) (fun M4 hQ4 h04 => ?_) (fun M4 hQ4 h04 => ?_)
  refine z_i2l dL_versions_7 ?_
  refine z_lastore dL_versions_8 hQ4.out rfl (by decide) (by decide) ?_
  refine z_goto (tgt := 15) dL_versions_9 (by decide) ?_
  refine z_ic ki_0 dL_versions_15 ?_
  refine z_ireturn dL_versions_16 rfl (by first | rfl | exact bI_nar _) ?_
  exact ⟨by rw [h04], hQ4.ans rfl⟩
  have hcs : (o_versions σ p0).1 = 1 := by omega
  rw [hcs]
  refine x_catch (E := xIO) [] (0, 9, 12, 21) [] rfl (fun z hz => (List.not_mem_nil hz).elim) ⟨by decide, by decide⟩ (by decide) cl_21 cst_xIO (fun q => ?_)
  refine z_astore_n dL_versions_12 (by decide) rfl ?_
  refine z_ic ki_1 dL_versions_13 ?_
  refine z_ireturn dL_versions_14 rfl (by first | rfl | exact bI_nar _) ?_
  exact ⟨rfl, hQ4.thr h04⟩
theorem l_unitOf (hI : INV B σ) (hB : 2000000 ≤ B ∧ B + 1000 < 2147483648) (hW : W2 g A σ ρ x M) (p0 : Int32) (p1 : Int32) : con g mL_unitOf 2 12 [.ref (A 0 0), .int p0, .int p1, .ref (A 22 0)] M (rQ (some (.int (nI (o_unitOf σ p0 p1).1))) (LQ g A B σ ρ x (o_unitOf σ p0 p1) NN)) := by
  refine con_h ?_ (by decide) rfl rfl (by simp [lv_args, Value.category]) (by simp [lv_args, lnd, Value.category])
  have hA := hW.hall
  have hk := k_unitOf g hI  hW p0 p1
  have hoc := oc_unitOf σ p0 p1
  refine z_aload_n dL_unitOf_0 rfl rfl ?_
  refine z_ic ki_0 dL_unitOf_1 ?_
  refine z_aload_n dL_unitOf_2 rfl rfl ?_
  refine z_iload_n dL_unitOf_3 rfl ?_
  refine z_iload_n dL_unitOf_4 rfl ?_
  refine z_ivO dL_unitOf_5 cv_RL_46 hA hk ⟨⟨by decide, by decide⟩, Nat.le_refl _, Nat.le_refl _⟩ rfl rfl (Nat.le_of_ble_eq_true rfl) (fun M5 hQ5 h05 => ?_) (fun M5 hQ5 h05 => ?_)
  refine z_i2l dL_unitOf_8 ?_
  refine z_lastore dL_unitOf_9 hQ5.out rfl (by decide) (by decide) ?_
  refine z_goto (tgt := 17) dL_unitOf_10 (by decide) ?_
  refine z_ic ki_0 dL_unitOf_17 ?_
  refine z_ireturn dL_unitOf_18 rfl (by first | rfl | exact bI_nar _) ?_
  exact ⟨by rw [h05], hQ5.ans rfl⟩
  have hcs : (o_unitOf σ p0 p1).1 = 1 := by omega
  rw [hcs]
  refine x_catch (E := xIO) [] (0, 10, 13, 21) [] rfl (fun z hz => (List.not_mem_nil hz).elim) ⟨by decide, by decide⟩ (by decide) cl_21 cst_xIO (fun q => ?_)
  refine z_astore dL_unitOf_13 (by decide) rfl ?_
  refine z_ic ki_1 dL_unitOf_15 ?_
  refine z_ireturn dL_unitOf_16 rfl (by first | rfl | exact bI_nar _) ?_
  exact ⟨rfl, hQ5.thr h05⟩
theorem l_read (hI : INV B σ) (hB : 2000000 ≤ B ∧ B + 1000 < 2147483648) (hW : W2 g A σ ρ x M) (p0 : Int32) (p1 : Int32) : con g mL_read 3 18 [.ref (A 0 0), .int p0, .int p1, .ref (A 22 0)] M (rQ (some (.int (nI (o_read σ p0 p1).1))) (LQ g A B σ ρ x (o_read σ p0 p1) NN)) := by
  refine con_h ?_ (by decide) rfl rfl (by simp [lv_args, Value.category]) (by simp [lv_args, lnd, Value.category])
  have hA := hW.hall
  have hk := k_read g hI (by omega) hW p0 p1
  have hoc := oc_read σ p0 p1
  refine z_aload_n dL_read_0 rfl rfl ?_
  refine z_ic ki_0 dL_read_1 ?_
  refine z_aload_n dL_read_2 rfl rfl ?_
  refine z_iload_n dL_read_3 rfl ?_
  refine z_iload_n dL_read_4 rfl ?_
  refine z_ivO dL_read_5 cv_RL_49 hA hk ⟨⟨by decide, by decide⟩, Nat.le_refl _, Nat.le_refl _⟩ rfl rfl (Nat.le_of_ble_eq_true rfl) (fun M5 hQ5 h05 => ?_) (fun M5 hQ5 h05 => ?_)
  refine z_i2l dL_read_8 ?_
  refine z_lastore dL_read_9 hQ5.out rfl (by decide) (by decide) ?_
  refine z_goto (tgt := 21) dL_read_10 (by decide) ?_
  refine z_ic ki_0 dL_read_21 ?_
  refine z_ireturn dL_read_22 rfl (by first | rfl | exact bI_nar _) ?_
  exact ⟨by rw [h05], hQ5.ans rfl⟩
  have hcs : (o_read σ p0 p1).1 = 1 ∨ (o_read σ p0 p1).1 = 2 := by omega
  rcases hcs with hcs | hcs
  · rw [hcs]
    refine x_catch (E := xIO) [] (0, 10, 13, 21) [(0, 10, 17, 15)] rfl (fun z hz => (List.not_mem_nil hz).elim) ⟨by decide, by decide⟩ (by decide) cl_21 cst_xIO (fun q => ?_)
    refine z_astore dL_read_13 (by decide) rfl ?_
    refine z_ic ki_1 dL_read_15 ?_
    refine z_ireturn dL_read_16 rfl (by first | rfl | exact bI_nar _) ?_
    exact ⟨rfl, hQ5.thr h05⟩
  · rw [hcs]
    refine x_catch (E := xIS) [(0, 10, 13, 21)] (0, 10, 17, 15) [] rfl (fun z hz => by rw [List.mem_singleton.mp hz]; exact ⟨xIO, by decide, cl_21, List.mem_of_getElem? (i := 3) rfl⟩) ⟨by decide, by decide⟩ (by decide) cl_15 cst_xIS (fun q => ?_)
    refine z_astore dL_read_17 (by decide) rfl ?_
    refine z_ic ki_2 dL_read_19 ?_
    refine z_ireturn dL_read_20 rfl (by first | rfl | exact bI_nar _) ?_
    exact ⟨rfl, hQ5.thr h05⟩
theorem l_atRisk (hI : INV B σ) (hB : 2000000 ≤ B ∧ B + 1000 < 2147483648) (hW : W2 g A σ ρ x M) (p0 : Int32) : con g mL_atRisk 1 6 [.ref (A 0 0), .int p0, .ref (A 22 0)] M (rQ (some (.int (nI (o_atRisk σ p0).1))) (LQ g A B σ ρ x (o_atRisk σ p0) NN)) := by
  refine con_h ?_ (by decide) rfl rfl (by simp [lv_args, Value.category]) (by simp [lv_args, lnd, Value.category])
  have hA := hW.hall
  have hk := k_atRisk g hI  hW p0
  have hoc := oc_atRisk σ p0
  refine z_aload_n dL_atRisk_0 rfl rfl ?_
  refine z_ic ki_0 dL_atRisk_1 ?_
  refine z_aload_n dL_atRisk_2 rfl rfl ?_
  refine z_iload_n dL_atRisk_3 rfl ?_
  refine z_ivO dL_atRisk_4 cv_RL_52 hA hk ⟨⟨by decide, by decide⟩, Nat.le_refl _, Nat.le_refl _⟩ rfl rfl (Nat.le_of_ble_eq_true rfl) (fun M4 hQ4 h04 => ?_) (fun M4 hQ4 h04 => ?_)
  refine z_i2l dL_atRisk_7 ?_
  refine z_lastore dL_atRisk_8 hQ4.out rfl (by decide) (by decide) ?_
  refine z_goto (tgt := 15) dL_atRisk_9 (by decide) ?_
  refine z_ic ki_0 dL_atRisk_15 ?_
  refine z_ireturn dL_atRisk_16 rfl (by first | rfl | exact bI_nar _) ?_
  exact ⟨by rw [h04], hQ4.ans rfl⟩
  have hcs : (o_atRisk σ p0).1 = 1 := by omega
  rw [hcs]
  refine x_catch (E := xIA) [] (0, 9, 12, 13) [] rfl (fun z hz => (List.not_mem_nil hz).elim) ⟨by decide, by decide⟩ (by decide) cl_13 cst_xIA (fun q => ?_)
  refine z_astore_n dL_atRisk_12 (by decide) rfl ?_
  refine z_ic ki_1 dL_atRisk_13 ?_
  refine z_ireturn dL_atRisk_14 rfl (by first | rfl | exact bI_nar _) ?_
  exact ⟨rfl, hQ4.thr h04⟩
theorem l_sites (hI : INV B σ) (hB : 2000000 ≤ B ∧ B + 1000 < 2147483648) (hW : W2 g A σ ρ x M) (p0 : Int32) : con g mL_sites 1 6 [.ref (A 0 0), .int p0, .ref (A 22 0)] M (rQ (some (.int (nI (o_sites σ p0).1))) (LQ g A B σ ρ x (o_sites σ p0) NN)) := by
  refine con_h ?_ (by decide) rfl rfl (by simp [lv_args, Value.category]) (by simp [lv_args, lnd, Value.category])
  have hA := hW.hall
  have hk := k_sites g hI  hW p0
  have hoc := oc_sites σ p0
  refine z_aload_n dL_sites_0 rfl rfl ?_
  refine z_ic ki_0 dL_sites_1 ?_
  refine z_aload_n dL_sites_2 rfl rfl ?_
  refine z_iload_n dL_sites_3 rfl ?_
  refine z_ivO dL_sites_4 cv_RL_55 hA hk ⟨⟨by decide, by decide⟩, Nat.le_refl _, Nat.le_refl _⟩ rfl rfl (Nat.le_of_ble_eq_true rfl) (fun M4 hQ4 h04 => ?_) (fun M4 hQ4 h04 => ?_)
  refine z_i2l dL_sites_7 ?_
  refine z_lastore dL_sites_8 hQ4.out rfl (by decide) (by decide) ?_
  refine z_goto (tgt := 15) dL_sites_9 (by decide) ?_
  refine z_ic ki_0 dL_sites_15 ?_
  refine z_ireturn dL_sites_16 rfl (by first | rfl | exact bI_nar _) ?_
  exact ⟨by rw [h04], hQ4.ans rfl⟩
  have hcs : (o_sites σ p0).1 = 1 := by omega
  rw [hcs]
  refine x_catch (E := xIO) [] (0, 9, 12, 21) [] rfl (fun z hz => (List.not_mem_nil hz).elim) ⟨by decide, by decide⟩ (by decide) cl_21 cst_xIO (fun q => ?_)
  refine z_astore_n dL_sites_12 (by decide) rfl ?_
  refine z_ic ki_1 dL_sites_13 ?_
  refine z_ireturn dL_sites_14 rfl (by first | rfl | exact bI_nar _) ?_
  exact ⟨rfl, hQ4.thr h04⟩
theorem l_sound (hI : INV B σ) (hB : 2000000 ≤ B ∧ B + 1000 < 2147483648) (hW : W2 g A σ ρ x M) (p0 : Int32) : con g mL_sound 1 6 [.ref (A 0 0), .int p0, .ref (A 22 0)] M (rQ (some (.int (nI (o_sound σ p0).1))) (LQ g A B σ ρ x (o_sound σ p0) NN)) := by
  refine con_h ?_ (by decide) rfl rfl (by simp [lv_args, Value.category]) (by simp [lv_args, lnd, Value.category])
  have hA := hW.hall
  have hk := k_sound g hI  hW p0
  have hoc := oc_sound σ p0
  refine z_aload_n dL_sound_0 rfl rfl ?_
  refine z_ic ki_0 dL_sound_1 ?_
  refine z_aload_n dL_sound_2 rfl rfl ?_
  refine z_iload_n dL_sound_3 rfl ?_
  refine z_ivO dL_sound_4 cv_RL_58 hA hk ⟨⟨by decide, by decide⟩, Nat.le_refl _, Nat.le_refl _⟩ rfl rfl (Nat.le_of_ble_eq_true rfl) (fun M4 hQ4 h04 => ?_) (fun M4 hQ4 h04 => ?_)
  refine z_i2l dL_sound_7 ?_
  refine z_lastore dL_sound_8 hQ4.out rfl (by decide) (by decide) ?_
  refine z_goto (tgt := 15) dL_sound_9 (by decide) ?_
  refine z_ic ki_0 dL_sound_15 ?_
  refine z_ireturn dL_sound_16 rfl (by first | rfl | exact bI_nar _) ?_
  exact ⟨by rw [h04], hQ4.ans rfl⟩
  have hcs : (o_sound σ p0).1 = 1 := by omega
  rw [hcs]
  refine x_catch (E := xIO) [] (0, 9, 12, 21) [] rfl (fun z hz => (List.not_mem_nil hz).elim) ⟨by decide, by decide⟩ (by decide) cl_21 cst_xIO (fun q => ?_)
  refine z_astore_n dL_sound_12 (by decide) rfl ?_
  refine z_ic ki_1 dL_sound_13 ?_
  refine z_ireturn dL_sound_14 rfl (by first | rfl | exact bI_nar _) ?_
  exact ⟨rfl, hQ4.thr h04⟩
theorem l_damage (hI : INV B σ) (hB : 2000000 ≤ B ∧ B + 1000 < 2147483648) (hW : W2 g A σ ρ x M) (p0 : Int32) (p1 : Int32) (p2 : Int32) : con g mL_damage 3 18 [.ref (A 0 0), .int p0, .int p1, .int p2, .ref (A 22 0)] M (rQ (some (.int (nI (o_damage σ p0 p1 p2).1))) (LQ g A B σ ρ x (o_damage σ p0 p1 p2) NN)) := by
  refine con_h ?_ (by decide) rfl rfl (by simp [lv_args, Value.category]) (by simp [lv_args, lnd, Value.category])
  have hA := hW.hall
  have hk := k_damage g hI hB.2 hW p0 p1 p2
  have hoc := oc_damage σ p0 p1 p2
  refine z_aload dL_damage_0 rfl rfl ?_
  refine z_ic ki_0 dL_damage_2 ?_
  refine z_aload_n dL_damage_3 rfl rfl ?_
  refine z_iload_n dL_damage_4 rfl ?_
  refine z_iload_n dL_damage_5 rfl ?_
  refine z_iload_n dL_damage_6 rfl ?_
  refine z_ivO dL_damage_7 cv_RL_61 hA hk ⟨⟨by decide, by decide⟩, Nat.le_refl _, Nat.le_refl _⟩ rfl rfl (Nat.le_of_ble_eq_true rfl) (fun M7 hQ7 h07 => ?_) (fun M7 hQ7 h07 => ?_)
  refine z_if_eq (tgt := 17) dL_damage_10 (by decide) (fun h10 => ?_) (fun h10 => ?_)
  · refine z_lconst dL_damage_17 ?_
    refine z_lastore dL_damage_18 hQ7.out rfl (by decide) (by decide) ?_
    refine z_goto (tgt := 30) dL_damage_19 (by decide) ?_
    refine z_ic ki_0 dL_damage_30 ?_
    refine z_ireturn dL_damage_31 rfl (by first | rfl | exact bI_nar _) ?_
    exact ⟨by rw [h07], hQ7.ans (by rw [h10]; rfl)⟩
  · refine z_lconst dL_damage_13 ?_
    refine z_goto (tgt := 18) dL_damage_14 (by decide) ?_
    refine z_lastore dL_damage_18 hQ7.out rfl (by decide) (by decide) ?_
    refine z_goto (tgt := 30) dL_damage_19 (by decide) ?_
    refine z_ic ki_0 dL_damage_30 ?_
    refine z_ireturn dL_damage_31 rfl (by first | rfl | exact bI_nar _) ?_
    exact ⟨by rw [h07], hQ7.ans (by rcases od_damage σ p0 p1 p2 with q | q; exact absurd q h10; rw [q]; rfl)⟩
  have hcs : (o_damage σ p0 p1 p2).1 = 1 ∨ (o_damage σ p0 p1 p2).1 = 2 := by omega
  rcases hcs with hcs | hcs
  · rw [hcs]
    refine x_catch (E := xIA) [] (0, 19, 22, 13) [(0, 19, 26, 21)] rfl (fun z hz => (List.not_mem_nil hz).elim) ⟨by decide, by decide⟩ (by decide) cl_13 cst_xIA (fun q => ?_)
    refine z_astore dL_damage_22 (by decide) rfl ?_
    refine z_ic ki_1 dL_damage_24 ?_
    refine z_ireturn dL_damage_25 rfl (by first | rfl | exact bI_nar _) ?_
    exact ⟨rfl, hQ7.thr h07⟩
  · rw [hcs]
    refine x_catch (E := xIO) [(0, 19, 22, 13)] (0, 19, 26, 21) [] rfl (fun z hz => by rw [List.mem_singleton.mp hz]; exact ⟨xIA, by decide, cl_13, List.mem_of_getElem? (i := 4) rfl⟩) ⟨by decide, by decide⟩ (by decide) cl_21 cst_xIO (fun q => ?_)
    refine z_astore dL_damage_26 (by decide) rfl ?_
    refine z_ic ki_2 dL_damage_28 ?_
    refine z_ireturn dL_damage_29 rfl (by first | rfl | exact bI_nar _) ?_
    exact ⟨rfl, hQ7.thr h07⟩
theorem l_toggleSite (hI : INV B σ) (hB : 2000000 ≤ B ∧ B + 1000 < 2147483648) (hW : W2 g A σ ρ x M) (p0 : Int32) : con g mL_toggleSite 1 6 [.ref (A 0 0), .int p0, .ref (A 22 0)] M (rQ (some (.int (nI (o_toggleSite σ p0).1))) (LQ g A B σ ρ x (o_toggleSite σ p0) NN)) := by
  refine con_h ?_ (by decide) rfl rfl (by simp [lv_args, Value.category]) (by simp [lv_args, lnd, Value.category])
  have hA := hW.hall
  have hk := k_toggleSite g hI  hW p0
  have hoc := oc_toggleSite σ p0
  refine z_aload_n dL_toggleSite_0 rfl rfl ?_
  refine z_ic ki_0 dL_toggleSite_1 ?_
  refine z_aload_n dL_toggleSite_2 rfl rfl ?_
  refine z_iload_n dL_toggleSite_3 rfl ?_
  refine z_ivO dL_toggleSite_4 cv_RL_65 hA hk ⟨⟨by decide, by decide⟩, Nat.le_refl _, Nat.le_refl _⟩ rfl rfl (Nat.le_of_ble_eq_true rfl) (fun M4 hQ4 h04 => ?_) (fun M4 hQ4 h04 => ?_)
  refine z_i2l dL_toggleSite_7 ?_
  refine z_lastore dL_toggleSite_8 hQ4.out rfl (by decide) (by decide) ?_
  refine z_goto (tgt := 15) dL_toggleSite_9 (by decide) ?_
  refine z_ic ki_0 dL_toggleSite_15 ?_
  refine z_ireturn dL_toggleSite_16 rfl (by first | rfl | exact bI_nar _) ?_
  exact ⟨by rw [h04], hQ4.ans rfl⟩
  have hcs : (o_toggleSite σ p0).1 = 1 := by omega
  rw [hcs]
  refine x_catch (E := xIA) [] (0, 9, 12, 13) [] rfl (fun z hz => (List.not_mem_nil hz).elim) ⟨by decide, by decide⟩ (by decide) cl_13 cst_xIA (fun q => ?_)
  refine z_astore_n dL_toggleSite_12 (by decide) rfl ?_
  refine z_ic ki_1 dL_toggleSite_13 ?_
  refine z_ireturn dL_toggleSite_14 rfl (by first | rfl | exact bI_nar _) ?_
  exact ⟨rfl, hQ4.thr h04⟩
theorem l_audit (hI : INV B σ) (hB : 2000000 ≤ B ∧ B + 1000 < 2147483648) (hW : W2 g A σ ρ x M) (p0 : Int32) : con g mL_audit 1 6 [.ref (A 0 0), .int p0, .ref (A 22 0)] M (rQ (some (.int (nI (o_audit σ p0).1))) (LQ g A B σ ρ x (o_audit σ p0) NN)) := by
  refine con_h ?_ (by decide) rfl rfl (by simp [lv_args, Value.category]) (by simp [lv_args, lnd, Value.category])
  have hA := hW.hall
  have hk := k_audit g hI (by omega) hW p0
  have hoc := oc_audit σ p0
  refine z_aload_n dL_audit_0 rfl rfl ?_
  refine z_ic ki_0 dL_audit_1 ?_
  refine z_aload_n dL_audit_2 rfl rfl ?_
  refine z_iload_n dL_audit_3 rfl ?_
  refine z_ivO dL_audit_4 cv_RL_68 hA hk ⟨⟨by decide, by decide⟩, Nat.le_refl _, Nat.le_refl _⟩ rfl rfl (Nat.le_of_ble_eq_true rfl) (fun M4 hQ4 h04 => ?_) (fun M4 hQ4 h04 => ?_)
  refine z_i2l dL_audit_7 ?_
  refine z_lastore dL_audit_8 hQ4.out rfl (by decide) (by decide) ?_
  refine z_goto (tgt := 18) dL_audit_9 (by decide) ?_
  refine z_ic ki_0 dL_audit_18 ?_
  refine z_ireturn dL_audit_19 rfl (by first | rfl | exact bI_nar _) ?_
  exact ⟨by rw [h04], hQ4.ans rfl⟩
  have hcs : (o_audit σ p0).1 = 1 ∨ (o_audit σ p0).1 = 2 := by omega
  rcases hcs with hcs | hcs
  · rw [hcs]
    refine x_catch (E := xIA) [] (0, 9, 12, 13) [(0, 9, 15, 15)] rfl (fun z hz => (List.not_mem_nil hz).elim) ⟨by decide, by decide⟩ (by decide) cl_13 cst_xIA (fun q => ?_)
    refine z_astore_n dL_audit_12 (by decide) rfl ?_
    refine z_ic ki_1 dL_audit_13 ?_
    refine z_ireturn dL_audit_14 rfl (by first | rfl | exact bI_nar _) ?_
    exact ⟨rfl, hQ4.thr h04⟩
  · rw [hcs]
    refine x_catch (E := xIS) [(0, 9, 12, 13)] (0, 9, 15, 15) [] rfl (fun z hz => by rw [List.mem_singleton.mp hz]; exact ⟨xIA, by decide, cl_13, List.mem_of_getElem? (i := 2) rfl⟩) ⟨by decide, by decide⟩ (by decide) cl_15 cst_xIS (fun q => ?_)
    refine z_astore_n dL_audit_15 (by decide) rfl ?_
    refine z_ic ki_2 dL_audit_16 ?_
    refine z_ireturn dL_audit_17 rfl (by first | rfl | exact bI_nar _) ?_
    exact ⟨rfl, hQ4.thr h04⟩
end LAWH
