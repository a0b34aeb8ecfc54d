/-! the constants of the law; its helpers that catch what a call throws -/
theorem kb_m30 : (Int8.ofInt (-30)).toInt32 = (-30) := by decide
theorem kb_m20 : (Int8.ofInt (-20)).toInt32 = (-20) := by decide
theorem kb_m10 : (Int8.ofInt (-10)).toInt32 = (-10) := by decide
theorem kb_6 : (Int8.ofInt (6)).toInt32 = nI 6 := by decide
theorem kb_7 : (Int8.ofInt (7)).toInt32 = nI 7 := by decide
theorem kb_12 : (Int8.ofInt (12)).toInt32 = nI 12 := by decide
theorem kb_14 : (Int8.ofInt (14)).toInt32 = nI 14 := by decide
theorem kb_15 : (Int8.ofInt (15)).toInt32 = nI 15 := by decide
theorem kb_18 : (Int8.ofInt (18)).toInt32 = nI 18 := by decide
theorem kb_20 : (Int8.ofInt (20)).toInt32 = nI 20 := by decide
theorem kb_21 : (Int8.ofInt (21)).toInt32 = nI 21 := by decide
theorem kb_24 : (Int8.ofInt (24)).toInt32 = nI 24 := by decide
theorem kb_28 : (Int8.ofInt (28)).toInt32 = nI 28 := by decide
theorem kb_30 : (Int8.ofInt (30)).toInt32 = nI 30 := by decide
theorem kb_40 : (Int8.ofInt (40)).toInt32 = nI 40 := by decide
theorem kb_60 : (Int8.ofInt (60)).toInt32 = nI 60 := by decide
theorem kb_101 : (Int8.ofInt (101)).toInt32 = nI 101 := by decide
theorem kb_102 : (Int8.ofInt (102)).toInt32 = nI 102 := by decide
theorem kb_103 : (Int8.ofInt (103)).toInt32 = nI 103 := by decide
theorem ks_m1001 : (Int16.ofInt (-1001)).toInt32 = (-1001) := by decide
theorem ks_140 : (Int16.ofInt (140)).toInt32 = nI 140 := by decide
theorem ks_157 : (Int16.ofInt (157)).toInt32 = nI 157 := by decide
theorem ks_277 : (Int16.ofInt (277)).toInt32 = nI 277 := by decide
theorem ks_1001 : (Int16.ofInt (1001)).toInt32 = nI 1001 := by decide
theorem ks_2003 : (Int16.ofInt (2003)).toInt32 = nI 2003 := by decide
theorem ks_6000 : (Int16.ofInt (6000)).toInt32 = nI 6000 := by decide
theorem ks_7000 : (Int16.ofInt (7000)).toInt32 = nI 7000 := by decide
theorem ks_8000 : (Int16.ofInt (8000)).toInt32 = nI 8000 := by decide
theorem ki_5 : Int32.ofInt (5) = nI 5 := by decide
theorem ki_20 : Int32.ofInt (20) = nI 20 := by decide
theorem tl_0 {o : OP} {a b c : Int32} (h : o.1 = 0) : tl o a b c = o.2.1 := if_pos h
theorem tl_1 {o : OP} {a b c : Int32} (h : o.1 = 1) : tl o a b c = a := by unfold tl; rw [h]; rfl
theorem tl_2 {o : OP} {a b c : Int32} (h : o.1 = 2) : tl o a b c = b := by unfold tl; rw [h]; rfl
theorem tl_3 {o : OP} {a b c : Int32} (h : o.1 = 3) : tl o a b c = c := by unfold tl; rw [h]; rfl
section HELP
variable (g : GG) {A0 : Nat → Nat → Nat} {B : Nat} {σ : ST} {ar : Nat → Nat → Int32} {M : Mem}
theorem h_addFormat (hI : INV B σ)  (h : WA g A0 σ ar M) (p0 p1 p2 : Int32) : con g mL_formats 2 12 [.ref (A0 0 0), .int (nI 0), .int p0, .int p1, .int p2] M (rQ (some (.int (tl (o_addFormat σ p0) (-20) (-10) (-10)))) (MA g A0 B (o_addFormat σ p0) ar)) := by
  refine con_h ?_ (by decide) rfl rfl (by simp [lv_args, Value.category]) (by simp [lv_args, lnd, Value.category])
  obtain ⟨fs, hA⟩ := WA_hall h
  have k := a_addFormat g hI h p0
  have hoc := oc_addFormat σ p0
  refine z_iload_n dL_formats_0 rfl ?_
  refine z_if_ne (tgt := 12) dL_formats_1 (by decide) (fun h1 => absurd h1 (by decide)) (fun h1 => ?_)
  refine z_aload_n dL_formats_4 rfl rfl ?_
  refine z_iload_n dL_formats_5 rfl ?_
  refine z_ivO dL_formats_6 cv_RL_8 hA k ⟨⟨by decide, by decide⟩, Nat.le_refl _, Nat.le_refl _⟩ rfl rfl (Nat.le_of_ble_eq_true rfl) (fun M6 hQ6 h06 => ?_) (fun M6 hQ6 h06 => ?_)
  refine z_goto (tgt := 61) dL_formats_9 (by decide) ?_
  refine z_ireturn dL_formats_61 rfl (by first | rfl | exact bI_nar _) ?_
  exact ⟨by rw [tl_0 h06], hQ6⟩
  have hcs : (o_addFormat σ p0).1 = 1 ∨ (o_addFormat σ p0).1 = 2 := by omega
  rcases hcs with hcs | hcs
  · rw [hcs]
    refine x_catch (E := xIA) [] (0, 61, 62, 28) [(0, 61, 67, 30), (0, 61, 72, 32)] rfl (fun z hz => (List.not_mem_nil hz).elim) ⟨by decide, by decide⟩ (by decide) cl_28 cst_xIA (fun q => ?_)
    refine z_astore dL_formats_62 (by decide) rfl ?_
    refine z_bi kb_m20 dL_formats_64 ?_
    refine z_ireturn dL_formats_66 rfl (by first | rfl | exact bI_nar _) ?_
    exact ⟨by rw [tl_1 hcs], hQ6⟩
  · rw [hcs]
    refine x_catch (E := xIS) [(0, 61, 62, 28), (0, 61, 67, 30)] (0, 61, 72, 32) [] rfl (fun z hz => (List.mem_cons.mp hz).elim (fun q => by rw [q]; exact ⟨xIA, by decide, cl_28, List.mem_of_getElem? (i := 2) rfl⟩) (fun q => by rw [List.mem_singleton.mp q]; exact ⟨xIO, by decide, cl_30, List.mem_of_getElem? (i := 3) rfl⟩)) ⟨by decide, by decide⟩ (by decide) cl_32 cst_xIS (fun q => ?_)
    refine z_astore dL_formats_72 (by decide) rfl ?_
    refine z_bi kb_m10 dL_formats_74 ?_
    refine z_ireturn dL_formats_76 rfl (by first | rfl | exact bI_nar _) ?_
    exact ⟨by rw [tl_2 hcs], hQ6⟩
theorem h_setRisk (hI : INV B σ)  (h : WA g A0 σ ar M) (p0 p1 p2 : Int32) : con g mL_formats 2 12 [.ref (A0 0 0), .int (nI 1), .int p0, .int p1, .int p2] M (rQ (some (.int (tl (o_setRisk σ p0 p1) (-20) (-30) (-30)))) (MA g A0 B (o_setRisk σ p0 p1) ar)) := by
  refine con_h ?_ (by decide) rfl rfl (by simp [lv_args, Value.category]) (by simp [lv_args, lnd, Value.category])
  obtain ⟨fs, hA⟩ := WA_hall h
  have k := a_setRisk g hI h p0 p1
  have hoc := oc_setRisk σ p0 p1
  refine z_iload_n dL_formats_0 rfl ?_
  refine z_if_ne (tgt := 12) dL_formats_1 (by decide) (fun h1 => ?_) (fun h1 => absurd h1 (by decide))
  refine z_iload_n dL_formats_12 rfl ?_
  refine z_ic ki_1 dL_formats_13 ?_
  refine z_icmp_ne (tgt := 26) dL_formats_14 (by decide) (fun h14 => absurd h14 (by decide)) (fun h14 => ?_)
  refine z_aload_n dL_formats_17 rfl rfl ?_
  refine z_iload_n dL_formats_18 rfl ?_
  refine z_iload_n dL_formats_19 rfl ?_
  refine z_ivO dL_formats_20 cv_RL_14 hA k ⟨⟨by decide, by decide⟩, Nat.le_refl _, Nat.le_refl _⟩ rfl rfl (Nat.le_of_ble_eq_true rfl) (fun M20 hQ20 h020 => ?_) (fun M20 hQ20 h020 => ?_)
  refine z_goto (tgt := 61) dL_formats_23 (by decide) ?_
  refine z_ireturn dL_formats_61 rfl (by first | rfl | exact bI_nar _) ?_
  exact ⟨by rw [tl_0 h020], hQ20⟩
  have hcs : (o_setRisk σ p0 p1).1 = 1 ∨ (o_setRisk σ p0 p1).1 = 2 := by omega
  rcases hcs with hcs | hcs
  · rw [hcs]
    refine x_catch (E := xIA) [] (0, 61, 62, 28) [(0, 61, 67, 30), (0, 61, 72, 32)] rfl (fun z hz => (List.not_mem_nil hz).elim) ⟨by decide, by decide⟩ (by decide) cl_28 cst_xIA (fun q => ?_)
    refine z_astore dL_formats_62 (by decide) rfl ?_
    refine z_bi kb_m20 dL_formats_64 ?_
    refine z_ireturn dL_formats_66 rfl (by first | rfl | exact bI_nar _) ?_
    exact ⟨by rw [tl_1 hcs], hQ20⟩
  · rw [hcs]
    refine x_catch (E := xIO) [(0, 61, 62, 28)] (0, 61, 67, 30) [(0, 61, 72, 32)] rfl (fun z hz => by rw [List.mem_singleton.mp hz]; exact ⟨xIA, by decide, cl_28, List.mem_of_getElem? (i := 4) rfl⟩) ⟨by decide, by decide⟩ (by decide) cl_30 cst_xIO (fun q => ?_)
    refine z_astore dL_formats_67 (by decide) rfl ?_
    refine z_bi kb_m30 dL_formats_69 ?_
    refine z_ireturn dL_formats_71 rfl (by first | rfl | exact bI_nar _) ?_
    exact ⟨by rw [tl_2 hcs], hQ20⟩
theorem h_addConversion (hI : INV B σ)  (h : WA g A0 σ ar M) (p0 p1 p2 : Int32) : con g mL_formats 3 18 [.ref (A0 0 0), .int (nI 2), .int p0, .int p1, .int p2] M (rQ (some (.int (tl (o_addConversion σ p0 p1 p2) (-20) (-30) (-30)))) (MA g A0 B (o_addConversion σ p0 p1 p2) ar)) := by
  refine con_h ?_ (by decide) rfl rfl (by simp [lv_args, Value.category]) (by simp [lv_args, lnd, Value.category])
  obtain ⟨fs, hA⟩ := WA_hall h
  have k := a_addConversion g hI h p0 p1 p2
  have hoc := oc_addConversion σ p0 p1 p2
  refine z_iload_n dL_formats_0 rfl ?_
  refine z_if_ne (tgt := 12) dL_formats_1 (by decide) (fun h1 => ?_) (fun h1 => absurd h1 (by decide))
  refine z_iload_n dL_formats_12 rfl ?_
  refine z_ic ki_1 dL_formats_13 ?_
  refine z_icmp_ne (tgt := 26) dL_formats_14 (by decide) (fun h14 => ?_) (fun h14 => absurd h14 (by decide))
  refine z_iload_n dL_formats_26 rfl ?_
  refine z_ic ki_2 dL_formats_27 ?_
  refine z_icmp_ne (tgt := 42) dL_formats_28 (by decide) (fun h28 => absurd h28 (by decide)) (fun h28 => ?_)
  refine z_aload_n dL_formats_31 rfl rfl ?_
  refine z_iload_n dL_formats_32 rfl ?_
  refine z_iload_n dL_formats_33 rfl ?_
  refine z_iload dL_formats_34 rfl ?_
  refine z_ivO dL_formats_36 cv_RL_18 hA k ⟨⟨by decide, by decide⟩, Nat.le_refl _, Nat.le_refl _⟩ rfl rfl (Nat.le_of_ble_eq_true rfl) (fun M36 hQ36 h036 => ?_) (fun M36 hQ36 h036 => ?_)
  refine z_goto (tgt := 61) dL_formats_39 (by decide) ?_
  refine z_ireturn dL_formats_61 rfl (by first | rfl | exact bI_nar _) ?_
  exact ⟨by rw [tl_0 h036], hQ36⟩
  have hcs : (o_addConversion σ p0 p1 p2).1 = 1 ∨ (o_addConversion σ p0 p1 p2).1 = 2 := by omega
  rcases hcs with hcs | hcs
  · rw [hcs]
    refine x_catch (E := xIA) [] (0, 61, 62, 28) [(0, 61, 67, 30), (0, 61, 72, 32)] rfl (fun z hz => (List.not_mem_nil hz).elim) ⟨by decide, by decide⟩ (by decide) cl_28 cst_xIA (fun q => ?_)
    refine z_astore dL_formats_62 (by decide) rfl ?_
    refine z_bi kb_m20 dL_formats_64 ?_
    refine z_ireturn dL_formats_66 rfl (by first | rfl | exact bI_nar _) ?_
    exact ⟨by rw [tl_1 hcs], hQ36⟩
  · rw [hcs]
    refine x_catch (E := xIO) [(0, 61, 62, 28)] (0, 61, 67, 30) [(0, 61, 72, 32)] rfl (fun z hz => by rw [List.mem_singleton.mp hz]; exact ⟨xIA, by decide, cl_28, List.mem_of_getElem? (i := 4) rfl⟩) ⟨by decide, by decide⟩ (by decide) cl_30 cst_xIO (fun q => ?_)
    refine z_astore dL_formats_67 (by decide) rfl ?_
    refine z_bi kb_m30 dL_formats_69 ?_
    refine z_ireturn dL_formats_71 rfl (by first | rfl | exact bI_nar _) ?_
    exact ⟨by rw [tl_2 hcs], hQ36⟩
theorem h_bestWay (hI : INV B σ)  (h : WA g A0 σ ar M) (p0 p1 p2 : Int32) : con g mL_formats 2 12 [.ref (A0 0 0), .int (nI 3), .int p0, .int p1, .int p2] M (rQ (some (.int (tl (o_bestWay σ p0 p1) (-30) (-30) (-30)))) (WA g A0 σ ar)) := by
  refine con_h ?_ (by decide) rfl rfl (by simp [lv_args, Value.category]) (by simp [lv_args, lnd, Value.category])
  obtain ⟨fs, hA⟩ := WA_hall h
  have k := a_bestWay g hI h p0 p1
  have hoc := oc_bestWay σ p0 p1
  refine z_iload_n dL_formats_0 rfl ?_
  refine z_if_ne (tgt := 12) dL_formats_1 (by decide) (fun h1 => ?_) (fun h1 => absurd h1 (by decide))
  refine z_iload_n dL_formats_12 rfl ?_
  refine z_ic ki_1 dL_formats_13 ?_
  refine z_icmp_ne (tgt := 26) dL_formats_14 (by decide) (fun h14 => ?_) (fun h14 => absurd h14 (by decide))
  refine z_iload_n dL_formats_26 rfl ?_
  refine z_ic ki_2 dL_formats_27 ?_
  refine z_icmp_ne (tgt := 42) dL_formats_28 (by decide) (fun h28 => ?_) (fun h28 => absurd h28 (by decide))
  refine z_iload_n dL_formats_42 rfl ?_
  refine z_ic ki_3 dL_formats_43 ?_
  refine z_icmp_ne (tgt := 56) dL_formats_44 (by decide) (fun h44 => absurd h44 (by decide)) (fun h44 => ?_)
  refine z_aload_n dL_formats_47 rfl rfl ?_
  refine z_iload_n dL_formats_48 rfl ?_
  refine z_iload_n dL_formats_49 rfl ?_
  refine z_ivO dL_formats_50 cv_RL_22 hA k ⟨⟨by decide, by decide⟩, Nat.le_refl _, Nat.le_refl _⟩ rfl rfl (Nat.le_of_ble_eq_true rfl) (fun M50 hQ50 h050 => ?_) (fun M50 hQ50 h050 => ?_)
  refine z_goto (tgt := 61) dL_formats_53 (by decide) ?_
  refine z_ireturn dL_formats_61 rfl (by first | rfl | exact bI_nar _) ?_
  exact ⟨by rw [tl_0 h050], hQ50⟩
  have hcs : (o_bestWay σ p0 p1).1 = 1 := by omega
  rw [hcs]
  refine x_catch (E := xIO) [(0, 61, 62, 28)] (0, 61, 67, 30) [(0, 61, 72, 32)] rfl (fun z hz => by rw [List.mem_singleton.mp hz]; exact ⟨xIA, by decide, cl_28, List.mem_of_getElem? (i := 4) rfl⟩) ⟨by decide, by decide⟩ (by decide) cl_30 cst_xIO (fun q => ?_)
  refine z_astore dL_formats_67 (by decide) rfl ?_
  refine z_bi kb_m30 dL_formats_69 ?_
  refine z_ireturn dL_formats_71 rfl (by first | rfl | exact bI_nar _) ?_
  exact ⟨by rw [tl_1 hcs], hQ50⟩
theorem h_atRisk (hI : INV B σ)  (h : WA g A0 σ ar M) (p0 p1 p2 : Int32) : con g mL_formats 1 6 [.ref (A0 0 0), .int (nI 4), .int p0, .int p1, .int p2] M (rQ (some (.int (tl (o_atRisk σ p0) (-20) (-20) (-20)))) (WA g A0 σ ar)) := by
  refine con_h ?_ (by decide) rfl rfl (by simp [lv_args, Value.category]) (by simp [lv_args, lnd, Value.category])
  obtain ⟨fs, hA⟩ := WA_hall h
  have k := a_atRisk g hI h p0
  have hoc := oc_atRisk σ p0
  refine z_iload_n dL_formats_0 rfl ?_
  refine z_if_ne (tgt := 12) dL_formats_1 (by decide) (fun h1 => ?_) (fun h1 => absurd h1 (by decide))
  refine z_iload_n dL_formats_12 rfl ?_
  refine z_ic ki_1 dL_formats_13 ?_
  refine z_icmp_ne (tgt := 26) dL_formats_14 (by decide) (fun h14 => ?_) (fun h14 => absurd h14 (by decide))
  refine z_iload_n dL_formats_26 rfl ?_
  refine z_ic ki_2 dL_formats_27 ?_
  refine z_icmp_ne (tgt := 42) dL_formats_28 (by decide) (fun h28 => ?_) (fun h28 => absurd h28 (by decide))
  refine z_iload_n dL_formats_42 rfl ?_
  refine z_ic ki_3 dL_formats_43 ?_
  refine z_icmp_ne (tgt := 56) dL_formats_44 (by decide) (fun h44 => ?_) (fun h44 => absurd h44 (by decide))
  refine z_aload_n dL_formats_56 rfl rfl ?_
  refine z_iload_n dL_formats_57 rfl ?_
  refine z_ivO dL_formats_58 cv_RL_25 hA k ⟨⟨by decide, by decide⟩, Nat.le_refl _, Nat.le_refl _⟩ rfl rfl (Nat.le_of_ble_eq_true rfl) (fun M58 hQ58 h058 => ?_) (fun M58 hQ58 h058 => ?_)
  refine z_ireturn dL_formats_61 rfl (by first | rfl | exact bI_nar _) ?_
  exact ⟨by rw [tl_0 h058], hQ58⟩
  have hcs : (o_atRisk σ p0).1 = 1 := by omega
  rw [hcs]
  refine x_catch (E := xIA) [] (0, 61, 62, 28) [(0, 61, 67, 30), (0, 61, 72, 32)] rfl (fun z hz => (List.not_mem_nil hz).elim) ⟨by decide, by decide⟩ (by decide) cl_28 cst_xIA (fun q => ?_)
  refine z_astore dL_formats_62 (by decide) rfl ?_
  refine z_bi kb_m20 dL_formats_64 ?_
  refine z_ireturn dL_formats_66 rfl (by first | rfl | exact bI_nar _) ?_
  exact ⟨by rw [tl_1 hcs], hQ58⟩
theorem h_deposit (hI : INV B σ) (hB : 2000000 ≤ B ∧ B < 2147483648) (h : WA g A0 σ ar M) (p0 p1 p2 : Int32) : con g mL_versions 11 500 [.ref (A0 0 0), .int (nI 0), .int p0, .int p1, .int p2] M (rQ (some (.int (tl (o_deposit σ p0 p1 p2) (-20) (-30) (-10)))) (MA g A0 B (o_deposit σ p0 p1 p2) ar)) := by
  refine con_h ?_ (by decide) rfl rfl (by simp [lv_args, Value.category]) (by simp [lv_args, lnd, Value.category])
  obtain ⟨fs, hA⟩ := WA_hall h
  have k := a_deposit g hI hB h p0 p1 p2
  have hoc := oc_deposit σ p0 p1 p2
  refine z_iload_n dL_versions_0 rfl ?_
  refine z_if_ne (tgt := 15) dL_versions_1 (by decide) (fun h1 => absurd h1 (by decide)) (fun h1 => ?_)
  refine z_aload_n dL_versions_4 rfl rfl ?_
  refine z_iload_n dL_versions_5 rfl ?_
  refine z_iload_n dL_versions_6 rfl ?_
  refine z_iload dL_versions_7 rfl ?_
  refine z_ivO dL_versions_9 cv_RL_34 hA k ⟨⟨by decide, by decide⟩, Nat.le_refl _, Nat.le_refl _⟩ rfl rfl (Nat.le_of_ble_eq_true rfl) (fun M9 hQ9 h09 => ?_) (fun M9 hQ9 h09 => ?_)
  refine z_goto (tgt := 87) dL_versions_12 (by decide) ?_
  refine z_ireturn dL_versions_87 rfl (by first | rfl | exact bI_nar _) ?_
  exact ⟨by rw [tl_0 h09], hQ9⟩
  have hcs : (o_deposit σ p0 p1 p2).1 = 1 ∨ (o_deposit σ p0 p1 p2).1 = 2 ∨ (o_deposit σ p0 p1 p2).1 = 3 := by omega
  rcases hcs with hcs | hcs | hcs
  · rw [hcs]
    refine x_catch (E := xIA) [] (0, 87, 88, 28) [(0, 87, 93, 30), (0, 87, 98, 32)] rfl (fun z hz => (List.not_mem_nil hz).elim) ⟨by decide, by decide⟩ (by decide) cl_28 cst_xIA (fun q => ?_)
    refine z_astore dL_versions_88 (by decide) rfl ?_
    refine z_bi kb_m20 dL_versions_90 ?_
    refine z_ireturn dL_versions_92 rfl (by first | rfl | exact bI_nar _) ?_
    exact ⟨by rw [tl_1 hcs], hQ9⟩
  · rw [hcs]
    refine x_catch (E := xIO) [(0, 87, 88, 28)] (0, 87, 93, 30) [(0, 87, 98, 32)] rfl (fun z hz => by rw [List.mem_singleton.mp hz]; exact ⟨xIA, by decide, cl_28, List.mem_of_getElem? (i := 4) rfl⟩) ⟨by decide, by decide⟩ (by decide) cl_30 cst_xIO (fun q => ?_)
    refine z_astore dL_versions_93 (by decide) rfl ?_
    refine z_bi kb_m30 dL_versions_95 ?_
    refine z_ireturn dL_versions_97 rfl (by first | rfl | exact bI_nar _) ?_
    exact ⟨by rw [tl_2 hcs], hQ9⟩
  · rw [hcs]
    refine x_catch (E := xIS) [(0, 87, 88, 28), (0, 87, 93, 30)] (0, 87, 98, 32) [] rfl (fun z hz => (List.mem_cons.mp hz).elim (fun q => by rw [q]; exact ⟨xIA, by decide, cl_28, List.mem_of_getElem? (i := 2) rfl⟩) (fun q => by rw [List.mem_singleton.mp q]; exact ⟨xIO, by decide, cl_30, List.mem_of_getElem? (i := 3) rfl⟩)) ⟨by decide, by decide⟩ (by decide) cl_32 cst_xIS (fun q => ?_)
    refine z_astore dL_versions_98 (by decide) rfl ?_
    refine z_bi kb_m10 dL_versions_100 ?_
    refine z_ireturn dL_versions_102 rfl (by first | rfl | exact bI_nar _) ?_
    exact ⟨by rw [tl_3 hcs], hQ9⟩
theorem h_revise (hI : INV B σ) (hB : 2000000 ≤ B ∧ B < 2147483648) (h : WA g A0 σ ar M) (p0 p1 p2 : Int32) : con g mL_versions 9 339 [.ref (A0 0 0), .int (nI 1), .int p0, .int p1, .int p2] M (rQ (some (.int (tl (o_revise σ p0 p1 (decide (p2 = nI 1))) (-20) (-30) (-10)))) (MA g A0 B (o_revise σ p0 p1 (decide (p2 = nI 1))) ar)) := by
  refine con_h ?_ (by decide) rfl rfl (by simp [lv_args, Value.category]) (by simp [lv_args, lnd, Value.category])
  obtain ⟨fs, hA⟩ := WA_hall h
  have k := a_revise g hI hB h p0 p1 (decide (p2 = nI 1))
  have hoc := oc_revise σ p0 p1 (decide (p2 = nI 1))
  by_cases hc : p2 = nI 1
  · rw [show bI (decide (p2 = nI 1)) = nI 1 by rw [decide_eq_true hc]; rfl] at k
    refine z_iload_n dL_versions_0 rfl ?_
    refine z_if_ne (tgt := 15) dL_versions_1 (by decide) (fun h1 => ?_) (fun h1 => absurd h1 (by decide))
    refine z_iload_n dL_versions_15 rfl ?_
    refine z_ic ki_1 dL_versions_16 ?_
    refine z_icmp_ne (tgt := 40) dL_versions_17 (by decide) (fun h17 => absurd h17 (by decide)) (fun h17 => ?_)
    refine z_aload_n dL_versions_20 rfl rfl ?_
    refine z_iload_n dL_versions_21 rfl ?_
    refine z_iload_n dL_versions_22 rfl ?_
    refine z_iload dL_versions_23 rfl ?_
    refine z_ic ki_1 dL_versions_25 ?_
    refine z_icmp_ne (tgt := 33) dL_versions_26 (by decide) (fun h26 => absurd h26 (fun q => q hc)) (fun h26 => ?_)
    refine z_ic ki_1 dL_versions_29 ?_
    refine z_goto (tgt := 34) dL_versions_30 (by decide) ?_
    refine z_ivO dL_versions_34 cv_RL_37 hA k ⟨⟨by decide, by decide⟩, Nat.le_refl _, Nat.le_refl _⟩ rfl rfl (Nat.le_of_ble_eq_true rfl) (fun M34 hQ34 h034 => ?_) (fun M34 hQ34 h034 => ?_)
    refine z_goto (tgt := 87) dL_versions_37 (by decide) ?_
    refine z_ireturn dL_versions_87 rfl (by first | rfl | exact bI_nar _) ?_
    exact ⟨by rw [tl_0 h034], hQ34⟩
    have hcs : (o_revise σ p0 p1 (decide (p2 = nI 1))).1 = 1 ∨ (o_revise σ p0 p1 (decide (p2 = nI 1))).1 = 2 ∨ (o_revise σ p0 p1 (decide (p2 = nI 1))).1 = 3 := by omega
    rcases hcs with hcs | hcs | hcs
    · rw [hcs]
      refine x_catch (E := xIA) [] (0, 87, 88, 28) [(0, 87, 93, 30), (0, 87, 98, 32)] rfl (fun z hz => (List.not_mem_nil hz).elim) ⟨by decide, by decide⟩ (by decide) cl_28 cst_xIA (fun q => ?_)
      refine z_astore dL_versions_88 (by decide) rfl ?_
      refine z_bi kb_m20 dL_versions_90 ?_
      refine z_ireturn dL_versions_92 rfl (by first | rfl | exact bI_nar _) ?_
      exact ⟨by rw [tl_1 hcs], hQ34⟩
    · rw [hcs]
      refine x_catch (E := xIO) [(0, 87, 88, 28)] (0, 87, 93, 30) [(0, 87, 98, 32)] rfl (fun z hz => by rw [List.mem_singleton.mp hz]; exact ⟨xIA, by decide, cl_28, List.mem_of_getElem? (i := 4) rfl⟩) ⟨by decide, by decide⟩ (by decide) cl_30 cst_xIO (fun q => ?_)
      refine z_astore dL_versions_93 (by decide) rfl ?_
      refine z_bi kb_m30 dL_versions_95 ?_
      refine z_ireturn dL_versions_97 rfl (by first | rfl | exact bI_nar _) ?_
      exact ⟨by rw [tl_2 hcs], hQ34⟩
    · rw [hcs]
      refine x_catch (E := xIS) [(0, 87, 88, 28), (0, 87, 93, 30)] (0, 87, 98, 32) [] rfl (fun z hz => (List.mem_cons.mp hz).elim (fun q => by rw [q]; exact ⟨xIA, by decide, cl_28, List.mem_of_getElem? (i := 2) rfl⟩) (fun q => by rw [List.mem_singleton.mp q]; exact ⟨xIO, by decide, cl_30, List.mem_of_getElem? (i := 3) rfl⟩)) ⟨by decide, by decide⟩ (by decide) cl_32 cst_xIS (fun q => ?_)
      refine z_astore dL_versions_98 (by decide) rfl ?_
      refine z_bi kb_m10 dL_versions_100 ?_
      refine z_ireturn dL_versions_102 rfl (by first | rfl | exact bI_nar _) ?_
      exact ⟨by rw [tl_3 hcs], hQ34⟩
  · rw [show bI (decide (p2 = nI 1)) = nI 0 by rw [decide_eq_false hc]; rfl] at k
    refine z_iload_n dL_versions_0 rfl ?_
    refine z_if_ne (tgt := 15) dL_versions_1 (by decide) (fun h1 => ?_) (fun h1 => absurd h1 (by decide))
    refine z_iload_n dL_versions_15 rfl ?_
    refine z_ic ki_1 dL_versions_16 ?_
    refine z_icmp_ne (tgt := 40) dL_versions_17 (by decide) (fun h17 => absurd h17 (by decide)) (fun h17 => ?_)
    refine z_aload_n dL_versions_20 rfl rfl ?_
    refine z_iload_n dL_versions_21 rfl ?_
    refine z_iload_n dL_versions_22 rfl ?_
    refine z_iload dL_versions_23 rfl ?_
    refine z_ic ki_1 dL_versions_25 ?_
    refine z_icmp_ne (tgt := 33) dL_versions_26 (by decide) (fun h26 => ?_) (fun h26 => absurd h26 hc)
    refine z_ic ki_0 dL_versions_33 ?_
    refine z_ivO dL_versions_34 cv_RL_37 hA k ⟨⟨by decide, by decide⟩, Nat.le_refl _, Nat.le_refl _⟩ rfl rfl (Nat.le_of_ble_eq_true rfl) (fun M34 hQ34 h034 => ?_) (fun M34 hQ34 h034 => ?_)
    refine z_goto (tgt := 87) dL_versions_37 (by decide) ?_
    refine z_ireturn dL_versions_87 rfl (by first | rfl | exact bI_nar _) ?_
    exact ⟨by rw [tl_0 h034], hQ34⟩
    have hcs : (o_revise σ p0 p1 (decide (p2 = nI 1))).1 = 1 ∨ (o_revise σ p0 p1 (decide (p2 = nI 1))).1 = 2 ∨ (o_revise σ p0 p1 (decide (p2 = nI 1))).1 = 3 := by omega
    rcases hcs with hcs | hcs | hcs
    · rw [hcs]
      refine x_catch (E := xIA) [] (0, 87, 88, 28) [(0, 87, 93, 30), (0, 87, 98, 32)] rfl (fun z hz => (List.not_mem_nil hz).elim) ⟨by decide, by decide⟩ (by decide) cl_28 cst_xIA (fun q => ?_)
      refine z_astore dL_versions_88 (by decide) rfl ?_
      refine z_bi kb_m20 dL_versions_90 ?_
      refine z_ireturn dL_versions_92 rfl (by first | rfl | exact bI_nar _) ?_
      exact ⟨by rw [tl_1 hcs], hQ34⟩
    · rw [hcs]
      refine x_catch (E := xIO) [(0, 87, 88, 28)] (0, 87, 93, 30) [(0, 87, 98, 32)] rfl (fun z hz => by rw [List.mem_singleton.mp hz]; exact ⟨xIA, by decide, cl_28, List.mem_of_getElem? (i := 4) rfl⟩) ⟨by decide, by decide⟩ (by decide) cl_30 cst_xIO (fun q => ?_)
      refine z_astore dL_versions_93 (by decide) rfl ?_
      refine z_bi kb_m30 dL_versions_95 ?_
      refine z_ireturn dL_versions_97 rfl (by first | rfl | exact bI_nar _) ?_
      exact ⟨by rw [tl_2 hcs], hQ34⟩
    · rw [hcs]
      refine x_catch (E := xIS) [(0, 87, 88, 28), (0, 87, 93, 30)] (0, 87, 98, 32) [] rfl (fun z hz => (List.mem_cons.mp hz).elim (fun q => by rw [q]; exact ⟨xIA, by decide, cl_28, List.mem_of_getElem? (i := 2) rfl⟩) (fun q => by rw [List.mem_singleton.mp q]; exact ⟨xIO, by decide, cl_30, List.mem_of_getElem? (i := 3) rfl⟩)) ⟨by decide, by decide⟩ (by decide) cl_32 cst_xIS (fun q => ?_)
      refine z_astore dL_versions_98 (by decide) rfl ?_
      refine z_bi kb_m10 dL_versions_100 ?_
      refine z_ireturn dL_versions_102 rfl (by first | rfl | exact bI_nar _) ?_
      exact ⟨by rw [tl_3 hcs], hQ34⟩
theorem h_convert (hI : INV B σ) (hB : 2000000 ≤ B ∧ B < 2147483648) (h : WA g A0 σ ar M) (p0 p1 p2 : Int32) : con g mL_versions 10 345 [.ref (A0 0 0), .int (nI 2), .int p0, .int p1, .int p2] M (rQ (some (.int (tl (o_convert σ p0 p1) (-30) (-10) (-10)))) (MA g A0 B (o_convert σ p0 p1) ar)) := by
  refine con_h ?_ (by decide) rfl rfl (by simp [lv_args, Value.category]) (by simp [lv_args, lnd, Value.category])
  obtain ⟨fs, hA⟩ := WA_hall h
  have k := a_convert g hI hB h p0 p1
  have hoc := oc_convert σ p0 p1
  refine z_iload_n dL_versions_0 rfl ?_
  refine z_if_ne (tgt := 15) dL_versions_1 (by decide) (fun h1 => ?_) (fun h1 => absurd h1 (by decide))
  refine z_iload_n dL_versions_15 rfl ?_
  refine z_ic ki_1 dL_versions_16 ?_
  refine z_icmp_ne (tgt := 40) dL_versions_17 (by decide) (fun h17 => ?_) (fun h17 => absurd h17 (by decide))
  refine z_iload_n dL_versions_40 rfl ?_
  refine z_ic ki_2 dL_versions_41 ?_
  refine z_icmp_ne (tgt := 54) dL_versions_42 (by decide) (fun h42 => absurd h42 (by decide)) (fun h42 => ?_)
  refine z_aload_n dL_versions_45 rfl rfl ?_
  refine z_iload_n dL_versions_46 rfl ?_
  refine z_iload_n dL_versions_47 rfl ?_
  refine z_ivO dL_versions_48 cv_RL_41 hA k ⟨⟨by decide, by decide⟩, Nat.le_refl _, Nat.le_refl _⟩ rfl rfl (Nat.le_of_ble_eq_true rfl) (fun M48 hQ48 h048 => ?_) (fun M48 hQ48 h048 => ?_)
  refine z_goto (tgt := 87) dL_versions_51 (by decide) ?_
  refine z_ireturn dL_versions_87 rfl (by first | rfl | exact bI_nar _) ?_
  exact ⟨by rw [tl_0 h048], hQ48⟩
  have hcs : (o_convert σ p0 p1).1 = 1 ∨ (o_convert σ p0 p1).1 = 2 := by omega
  rcases hcs with hcs | hcs
  · rw [hcs]
    refine x_catch (E := xIO) [(0, 87, 88, 28)] (0, 87, 93, 30) [(0, 87, 98, 32)] rfl (fun z hz => by rw [List.mem_singleton.mp hz]; exact ⟨xIA, by decide, cl_28, List.mem_of_getElem? (i := 4) rfl⟩) ⟨by decide, by decide⟩ (by decide) cl_30 cst_xIO (fun q => ?_)
    refine z_astore dL_versions_93 (by decide) rfl ?_
    refine z_bi kb_m30 dL_versions_95 ?_
    refine z_ireturn dL_versions_97 rfl (by first | rfl | exact bI_nar _) ?_
    exact ⟨by rw [tl_1 hcs], hQ48⟩
  · rw [hcs]
    refine x_catch (E := xIS) [(0, 87, 88, 28), (0, 87, 93, 30)] (0, 87, 98, 32) [] rfl (fun z hz => (List.mem_cons.mp hz).elim (fun q => by rw [q]; exact ⟨xIA, by decide, cl_28, List.mem_of_getElem? (i := 2) rfl⟩) (fun q => by rw [List.mem_singleton.mp q]; exact ⟨xIO, by decide, cl_30, List.mem_of_getElem? (i := 3) rfl⟩)) ⟨by decide, by decide⟩ (by decide) cl_32 cst_xIS (fun q => ?_)
    refine z_astore dL_versions_98 (by decide) rfl ?_
    refine z_bi kb_m10 dL_versions_100 ?_
    refine z_ireturn dL_versions_102 rfl (by first | rfl | exact bI_nar _) ?_
    exact ⟨by rw [tl_2 hcs], hQ48⟩
theorem h_purge (hI : INV B σ)  (h : WA g A0 σ ar M) (p0 p1 p2 : Int32) : con g mL_versions 3 18 [.ref (A0 0 0), .int (nI 3), .int p0, .int p1, .int p2] M (rQ (some (.int (tl (o_purge σ p0 p1) (-30) (-10) (-10)))) (MA g A0 B (o_purge σ p0 p1) ar)) := by
  refine con_h ?_ (by decide) rfl rfl (by simp [lv_args, Value.category]) (by simp [lv_args, lnd, Value.category])
  obtain ⟨fs, hA⟩ := WA_hall h
  have k := a_purge g hI h p0 p1
  have hoc := oc_purge σ p0 p1
  refine z_iload_n dL_versions_0 rfl ?_
  refine z_if_ne (tgt := 15) dL_versions_1 (by decide) (fun h1 => ?_) (fun h1 => absurd h1 (by decide))
  refine z_iload_n dL_versions_15 rfl ?_
  refine z_ic ki_1 dL_versions_16 ?_
  refine z_icmp_ne (tgt := 40) dL_versions_17 (by decide) (fun h17 => ?_) (fun h17 => absurd h17 (by decide))
  refine z_iload_n dL_versions_40 rfl ?_
  refine z_ic ki_2 dL_versions_41 ?_
  refine z_icmp_ne (tgt := 54) dL_versions_42 (by decide) (fun h42 => ?_) (fun h42 => absurd h42 (by decide))
  refine z_iload_n dL_versions_54 rfl ?_
  refine z_ic ki_3 dL_versions_55 ?_
  refine z_icmp_ne (tgt := 68) dL_versions_56 (by decide) (fun h56 => absurd h56 (by decide)) (fun h56 => ?_)
  refine z_aload_n dL_versions_59 rfl rfl ?_
  refine z_iload_n dL_versions_60 rfl ?_
  refine z_iload_n dL_versions_61 rfl ?_
  refine z_ivO dL_versions_62 cv_RL_44 hA k ⟨⟨by decide, by decide⟩, Nat.le_refl _, Nat.le_refl _⟩ rfl rfl (Nat.le_of_ble_eq_true rfl) (fun M62 hQ62 h062 => ?_) (fun M62 hQ62 h062 => ?_)
  refine z_goto (tgt := 87) dL_versions_65 (by decide) ?_
  refine z_ireturn dL_versions_87 rfl (by first | rfl | exact bI_nar _) ?_
  exact ⟨by rw [tl_0 h062], hQ62⟩
  have hcs : (o_purge σ p0 p1).1 = 1 ∨ (o_purge σ p0 p1).1 = 2 := by omega
  rcases hcs with hcs | hcs
  · rw [hcs]
    refine x_catch (E := xIO) [(0, 87, 88, 28)] (0, 87, 93, 30) [(0, 87, 98, 32)] rfl (fun z hz => by rw [List.mem_singleton.mp hz]; exact ⟨xIA, by decide, cl_28, List.mem_of_getElem? (i := 4) rfl⟩) ⟨by decide, by decide⟩ (by decide) cl_30 cst_xIO (fun q => ?_)
    refine z_astore dL_versions_93 (by decide) rfl ?_
    refine z_bi kb_m30 dL_versions_95 ?_
    refine z_ireturn dL_versions_97 rfl (by first | rfl | exact bI_nar _) ?_
    exact ⟨by rw [tl_1 hcs], hQ62⟩
  · rw [hcs]
    refine x_catch (E := xIS) [(0, 87, 88, 28), (0, 87, 93, 30)] (0, 87, 98, 32) [] rfl (fun z hz => (List.mem_cons.mp hz).elim (fun q => by rw [q]; exact ⟨xIA, by decide, cl_28, List.mem_of_getElem? (i := 2) rfl⟩) (fun q => by rw [List.mem_singleton.mp q]; exact ⟨xIO, by decide, cl_30, List.mem_of_getElem? (i := 3) rfl⟩)) ⟨by decide, by decide⟩ (by decide) cl_32 cst_xIS (fun q => ?_)
    refine z_astore dL_versions_98 (by decide) rfl ?_
    refine z_bi kb_m10 dL_versions_100 ?_
    refine z_ireturn dL_versions_102 rfl (by first | rfl | exact bI_nar _) ?_
    exact ⟨by rw [tl_2 hcs], hQ62⟩
theorem h_versions (hI : INV B σ)  (h : WA g A0 σ ar M) (p0 p1 p2 : Int32) : con g mL_versions 1 6 [.ref (A0 0 0), .int (nI 4), .int p0, .int p1, .int p2] M (rQ (some (.int (tl (o_versions σ p0) (-30) (-30) (-30)))) (WA g A0 σ ar)) := by
  refine con_h ?_ (by decide) rfl rfl (by simp [lv_args, Value.category]) (by simp [lv_args, lnd, Value.category])
  obtain ⟨fs, hA⟩ := WA_hall h
  have k := a_versions g hI h p0
  have hoc := oc_versions σ p0
  refine z_iload_n dL_versions_0 rfl ?_
  refine z_if_ne (tgt := 15) dL_versions_1 (by decide) (fun h1 => ?_) (fun h1 => absurd h1 (by decide))
  refine z_iload_n dL_versions_15 rfl ?_
  refine z_ic ki_1 dL_versions_16 ?_
  refine z_icmp_ne (tgt := 40) dL_versions_17 (by decide) (fun h17 => ?_) (fun h17 => absurd h17 (by decide))
  refine z_iload_n dL_versions_40 rfl ?_
  refine z_ic ki_2 dL_versions_41 ?_
  refine z_icmp_ne (tgt := 54) dL_versions_42 (by decide) (fun h42 => ?_) (fun h42 => absurd h42 (by decide))
  refine z_iload_n dL_versions_54 rfl ?_
  refine z_ic ki_3 dL_versions_55 ?_
  refine z_icmp_ne (tgt := 68) dL_versions_56 (by decide) (fun h56 => ?_) (fun h56 => absurd h56 (by decide))
  refine z_iload_n dL_versions_68 rfl ?_
  refine z_ic ki_4 dL_versions_69 ?_
  refine z_icmp_ne (tgt := 81) dL_versions_70 (by decide) (fun h70 => absurd h70 (by decide)) (fun h70 => ?_)
  refine z_aload_n dL_versions_73 rfl rfl ?_
  refine z_iload_n dL_versions_74 rfl ?_
  refine z_ivO dL_versions_75 cv_RL_47 hA k ⟨⟨by decide, by decide⟩, Nat.le_refl _, Nat.le_refl _⟩ rfl rfl (Nat.le_of_ble_eq_true rfl) (fun M75 hQ75 h075 => ?_) (fun M75 hQ75 h075 => ?_)
  refine z_goto (tgt := 87) dL_versions_78 (by decide) ?_
  refine z_ireturn dL_versions_87 rfl (by first | rfl | exact bI_nar _) ?_
  exact ⟨by rw [tl_0 h075], hQ75⟩
  have hcs : (o_versions σ p0).1 = 1 := by omega
  rw [hcs]
  refine x_catch (E := xIO) [(0, 87, 88, 28)] (0, 87, 93, 30) [(0, 87, 98, 32)] rfl (fun z hz => by rw [List.mem_singleton.mp hz]; exact ⟨xIA, by decide, cl_28, List.mem_of_getElem? (i := 4) rfl⟩) ⟨by decide, by decide⟩ (by decide) cl_30 cst_xIO (fun q => ?_)
  refine z_astore dL_versions_93 (by decide) rfl ?_
  refine z_bi kb_m30 dL_versions_95 ?_
  refine z_ireturn dL_versions_97 rfl (by first | rfl | exact bI_nar _) ?_
  exact ⟨by rw [tl_1 hcs], hQ75⟩
theorem h_unitOf (hI : INV B σ)  (h : WA g A0 σ ar M) (p0 p1 p2 : Int32) : con g mL_versions 2 12 [.ref (A0 0 0), .int (nI 5), .int p0, .int p1, .int p2] M (rQ (some (.int (tl (o_unitOf σ p0 p1) (-30) (-30) (-30)))) (WA g A0 σ ar)) := by
  refine con_h ?_ (by decide) rfl rfl (by simp [lv_args, Value.category]) (by simp [lv_args, lnd, Value.category])
  obtain ⟨fs, hA⟩ := WA_hall h
  have k := a_unitOf g hI h p0 p1
  have hoc := oc_unitOf σ p0 p1
  refine z_iload_n dL_versions_0 rfl ?_
  refine z_if_ne (tgt := 15) dL_versions_1 (by decide) (fun h1 => ?_) (fun h1 => absurd h1 (by decide))
  refine z_iload_n dL_versions_15 rfl ?_
  refine z_ic ki_1 dL_versions_16 ?_
  refine z_icmp_ne (tgt := 40) dL_versions_17 (by decide) (fun h17 => ?_) (fun h17 => absurd h17 (by decide))
  refine z_iload_n dL_versions_40 rfl ?_
  refine z_ic ki_2 dL_versions_41 ?_
  refine z_icmp_ne (tgt := 54) dL_versions_42 (by decide) (fun h42 => ?_) (fun h42 => absurd h42 (by decide))
  refine z_iload_n dL_versions_54 rfl ?_
  refine z_ic ki_3 dL_versions_55 ?_
  refine z_icmp_ne (tgt := 68) dL_versions_56 (by decide) (fun h56 => ?_) (fun h56 => absurd h56 (by decide))
  refine z_iload_n dL_versions_68 rfl ?_
  refine z_ic ki_4 dL_versions_69 ?_
  refine z_icmp_ne (tgt := 81) dL_versions_70 (by decide) (fun h70 => ?_) (fun h70 => absurd h70 (by decide))
  refine z_aload_n dL_versions_81 rfl rfl ?_
  refine z_iload_n dL_versions_82 rfl ?_
  refine z_iload_n dL_versions_83 rfl ?_
  refine z_ivO dL_versions_84 cv_RL_50 hA k ⟨⟨by decide, by decide⟩, Nat.le_refl _, Nat.le_refl _⟩ rfl rfl (Nat.le_of_ble_eq_true rfl) (fun M84 hQ84 h084 => ?_) (fun M84 hQ84 h084 => ?_)
  refine z_ireturn dL_versions_87 rfl (by first | rfl | exact bI_nar _) ?_
  exact ⟨by rw [tl_0 h084], hQ84⟩
  have hcs : (o_unitOf σ p0 p1).1 = 1 := by omega
  rw [hcs]
  refine x_catch (E := xIO) [(0, 87, 88, 28)] (0, 87, 93, 30) [(0, 87, 98, 32)] rfl (fun z hz => by rw [List.mem_singleton.mp hz]; exact ⟨xIA, by decide, cl_28, List.mem_of_getElem? (i := 4) rfl⟩) ⟨by decide, by decide⟩ (by decide) cl_30 cst_xIO (fun q => ?_)
  refine z_astore dL_versions_93 (by decide) rfl ?_
  refine z_bi kb_m30 dL_versions_95 ?_
  refine z_ireturn dL_versions_97 rfl (by first | rfl | exact bI_nar _) ?_
  exact ⟨by rw [tl_1 hcs], hQ84⟩
theorem h_sites (hI : INV B σ)  (h : WA g A0 σ ar M) (p0 p1 p2 : Int32) : con g mL_copies 1 6 [.ref (A0 0 0), .int (nI 0), .int p0, .int p1, .int p2] M (rQ (some (.int (tl (o_sites σ p0) (-30) (-30) (-30)))) (WA g A0 σ ar)) := by
  refine con_h ?_ (by decide) rfl rfl (by simp [lv_args, Value.category]) (by simp [lv_args, lnd, Value.category])
  obtain ⟨fs, hA⟩ := WA_hall h
  have k := a_sites g hI h p0
  have hoc := oc_sites σ p0
  refine z_iload_n dL_copies_0 rfl ?_
  refine z_if_ne (tgt := 12) dL_copies_1 (by decide) (fun h1 => absurd h1 (by decide)) (fun h1 => ?_)
  refine z_aload_n dL_copies_4 rfl rfl ?_
  refine z_iload_n dL_copies_5 rfl ?_
  refine z_ivO dL_copies_6 cv_RL_58 hA k ⟨⟨by decide, by decide⟩, Nat.le_refl _, Nat.le_refl _⟩ rfl rfl (Nat.le_of_ble_eq_true rfl) (fun M6 hQ6 h06 => ?_) (fun M6 hQ6 h06 => ?_)
  refine z_goto (tgt := 67) dL_copies_9 (by decide) ?_
  refine z_ireturn dL_copies_67 rfl (by first | rfl | exact bI_nar _) ?_
  exact ⟨by rw [tl_0 h06], hQ6⟩
  have hcs : (o_sites σ p0).1 = 1 := by omega
  rw [hcs]
  refine x_catch (E := xIO) [(0, 67, 68, 28)] (0, 67, 73, 30) [(0, 67, 78, 32)] rfl (fun z hz => by rw [List.mem_singleton.mp hz]; exact ⟨xIA, by decide, cl_28, List.mem_of_getElem? (i := 4) rfl⟩) ⟨by decide, by decide⟩ (by decide) cl_30 cst_xIO (fun q => ?_)
  refine z_astore dL_copies_73 (by decide) rfl ?_
  refine z_bi kb_m30 dL_copies_75 ?_
  refine z_ireturn dL_copies_77 rfl (by first | rfl | exact bI_nar _) ?_
  exact ⟨by rw [tl_1 hcs], hQ6⟩
theorem h_sound (hI : INV B σ)  (h : WA g A0 σ ar M) (p0 p1 p2 : Int32) : con g mL_copies 1 6 [.ref (A0 0 0), .int (nI 1), .int p0, .int p1, .int p2] M (rQ (some (.int (tl (o_sound σ p0) (-30) (-30) (-30)))) (WA g A0 σ ar)) := by
  refine con_h ?_ (by decide) rfl rfl (by simp [lv_args, Value.category]) (by simp [lv_args, lnd, Value.category])
  obtain ⟨fs, hA⟩ := WA_hall h
  have k := a_sound g hI h p0
  have hoc := oc_sound σ p0
  refine z_iload_n dL_copies_0 rfl ?_
  refine z_if_ne (tgt := 12) dL_copies_1 (by decide) (fun h1 => ?_) (fun h1 => absurd h1 (by decide))
  refine z_iload_n dL_copies_12 rfl ?_
  refine z_ic ki_1 dL_copies_13 ?_
  refine z_icmp_ne (tgt := 25) dL_copies_14 (by decide) (fun h14 => absurd h14 (by decide)) (fun h14 => ?_)
  refine z_aload_n dL_copies_17 rfl rfl ?_
  refine z_iload_n dL_copies_18 rfl ?_
  refine z_ivO dL_copies_19 cv_RL_61 hA k ⟨⟨by decide, by decide⟩, Nat.le_refl _, Nat.le_refl _⟩ rfl rfl (Nat.le_of_ble_eq_true rfl) (fun M19 hQ19 h019 => ?_) (fun M19 hQ19 h019 => ?_)
  refine z_goto (tgt := 67) dL_copies_22 (by decide) ?_
  refine z_ireturn dL_copies_67 rfl (by first | rfl | exact bI_nar _) ?_
  exact ⟨by rw [tl_0 h019], hQ19⟩
  have hcs : (o_sound σ p0).1 = 1 := by omega
  rw [hcs]
  refine x_catch (E := xIO) [(0, 67, 68, 28)] (0, 67, 73, 30) [(0, 67, 78, 32)] rfl (fun z hz => by rw [List.mem_singleton.mp hz]; exact ⟨xIA, by decide, cl_28, List.mem_of_getElem? (i := 4) rfl⟩) ⟨by decide, by decide⟩ (by decide) cl_30 cst_xIO (fun q => ?_)
  refine z_astore dL_copies_73 (by decide) rfl ?_
  refine z_bi kb_m30 dL_copies_75 ?_
  refine z_ireturn dL_copies_77 rfl (by first | rfl | exact bI_nar _) ?_
  exact ⟨by rw [tl_1 hcs], hQ19⟩
theorem h_damage (hI : INV B σ) (hB : B + 1000 < 2147483648) (h : WA g A0 σ ar M) (p0 p1 p2 : Int32) : con g mL_copies 3 18 [.ref (A0 0 0), .int (nI 2), .int p0, .int p1, .int p2] M (rQ (some (.int (tl (o_damage σ p0 p1 p2) (-20) (-30) (-30)))) (MA g A0 B (o_damage σ p0 p1 p2) ar)) := by
  refine con_h ?_ (by decide) rfl rfl (by simp [lv_args, Value.category]) (by simp [lv_args, lnd, Value.category])
  obtain ⟨fs, hA⟩ := WA_hall h
  have k := a_damage g hI hB h p0 p1 p2
  have hoc := oc_damage σ p0 p1 p2
  refine z_iload_n dL_copies_0 rfl ?_
  refine z_if_ne (tgt := 12) dL_copies_1 (by decide) (fun h1 => ?_) (fun h1 => absurd h1 (by decide))
  refine z_iload_n dL_copies_12 rfl ?_
  refine z_ic ki_1 dL_copies_13 ?_
  refine z_icmp_ne (tgt := 25) dL_copies_14 (by decide) (fun h14 => ?_) (fun h14 => absurd h14 (by decide))
  refine z_iload_n dL_copies_25 rfl ?_
  refine z_ic ki_2 dL_copies_26 ?_
  refine z_icmp_ne (tgt := 49) dL_copies_27 (by decide) (fun h27 => absurd h27 (by decide)) (fun h27 => ?_)
  refine z_aload_n dL_copies_30 rfl rfl ?_
  refine z_iload_n dL_copies_31 rfl ?_
  refine z_iload_n dL_copies_32 rfl ?_
  refine z_iload dL_copies_33 rfl ?_
  refine z_ivO dL_copies_35 cv_RL_64 hA k ⟨⟨by decide, by decide⟩, Nat.le_refl _, Nat.le_refl _⟩ rfl rfl (Nat.le_of_ble_eq_true rfl) (fun M35 hQ35 h035 => ?_) (fun M35 hQ35 h035 => ?_)
  refine z_if_eq (tgt := 45) dL_copies_38 (by decide) (fun h38 => ?_) (fun h38 => ?_)
  · refine z_ic ki_0 dL_copies_45 ?_
    refine z_goto (tgt := 67) dL_copies_46 (by decide) ?_
    refine z_ireturn dL_copies_67 rfl (by first | rfl | exact bI_nar _) ?_
    exact ⟨by rw [tl_0 h035, h38]; rfl, hQ35⟩
  · refine z_ic ki_1 dL_copies_41 ?_
    refine z_goto (tgt := 67) dL_copies_42 (by decide) ?_
    refine z_ireturn dL_copies_67 rfl (by first | rfl | exact bI_nar _) ?_
    exact ⟨by rw [tl_0 h035, (od_damage σ p0 p1 p2).resolve_left h38]; rfl, hQ35⟩
  have hcs : (o_damage σ p0 p1 p2).1 = 1 ∨ (o_damage σ p0 p1 p2).1 = 2 := by omega
  rcases hcs with hcs | hcs
  · rw [hcs]
    refine x_catch (E := xIA) [] (0, 67, 68, 28) [(0, 67, 73, 30), (0, 67, 78, 32)] rfl (fun z hz => (List.not_mem_nil hz).elim) ⟨by decide, by decide⟩ (by decide) cl_28 cst_xIA (fun q => ?_)
    refine z_astore dL_copies_68 (by decide) rfl ?_
    refine z_bi kb_m20 dL_copies_70 ?_
    refine z_ireturn dL_copies_72 rfl (by first | rfl | exact bI_nar _) ?_
    exact ⟨by rw [tl_1 hcs], hQ35⟩
  · rw [hcs]
    refine x_catch (E := xIO) [(0, 67, 68, 28)] (0, 67, 73, 30) [(0, 67, 78, 32)] rfl (fun z hz => by rw [List.mem_singleton.mp hz]; exact ⟨xIA, by decide, cl_28, List.mem_of_getElem? (i := 4) rfl⟩) ⟨by decide, by decide⟩ (by decide) cl_30 cst_xIO (fun q => ?_)
    refine z_astore dL_copies_73 (by decide) rfl ?_
    refine z_bi kb_m30 dL_copies_75 ?_
    refine z_ireturn dL_copies_77 rfl (by first | rfl | exact bI_nar _) ?_
    exact ⟨by rw [tl_2 hcs], hQ35⟩
theorem h_toggleSite (hI : INV B σ)  (h : WA g A0 σ ar M) (p0 p1 p2 : Int32) : con g mL_copies 1 6 [.ref (A0 0 0), .int (nI 3), .int p0, .int p1, .int p2] M (rQ (some (.int (tl (o_toggleSite σ p0) (-20) (-20) (-20)))) (MA g A0 B (o_toggleSite σ p0) ar)) := by
  refine con_h ?_ (by decide) rfl rfl (by simp [lv_args, Value.category]) (by simp [lv_args, lnd, Value.category])
  obtain ⟨fs, hA⟩ := WA_hall h
  have k := a_toggleSite g hI h p0
  have hoc := oc_toggleSite σ p0
  refine z_iload_n dL_copies_0 rfl ?_
  refine z_if_ne (tgt := 12) dL_copies_1 (by decide) (fun h1 => ?_) (fun h1 => absurd h1 (by decide))
  refine z_iload_n dL_copies_12 rfl ?_
  refine z_ic ki_1 dL_copies_13 ?_
  refine z_icmp_ne (tgt := 25) dL_copies_14 (by decide) (fun h14 => ?_) (fun h14 => absurd h14 (by decide))
  refine z_iload_n dL_copies_25 rfl ?_
  refine z_ic ki_2 dL_copies_26 ?_
  refine z_icmp_ne (tgt := 49) dL_copies_27 (by decide) (fun h27 => ?_) (fun h27 => absurd h27 (by decide))
  refine z_iload_n dL_copies_49 rfl ?_
  refine z_ic ki_3 dL_copies_50 ?_
  refine z_icmp_ne (tgt := 62) dL_copies_51 (by decide) (fun h51 => absurd h51 (by decide)) (fun h51 => ?_)
  refine z_aload_n dL_copies_54 rfl rfl ?_
  refine z_iload_n dL_copies_55 rfl ?_
  refine z_ivO dL_copies_56 cv_RL_68 hA k ⟨⟨by decide, by decide⟩, Nat.le_refl _, Nat.le_refl _⟩ rfl rfl (Nat.le_of_ble_eq_true rfl) (fun M56 hQ56 h056 => ?_) (fun M56 hQ56 h056 => ?_)
  refine z_goto (tgt := 67) dL_copies_59 (by decide) ?_
  refine z_ireturn dL_copies_67 rfl (by first | rfl | exact bI_nar _) ?_
  exact ⟨by rw [tl_0 h056], hQ56⟩
  have hcs : (o_toggleSite σ p0).1 = 1 := by omega
  rw [hcs]
  refine x_catch (E := xIA) [] (0, 67, 68, 28) [(0, 67, 73, 30), (0, 67, 78, 32)] rfl (fun z hz => (List.not_mem_nil hz).elim) ⟨by decide, by decide⟩ (by decide) cl_28 cst_xIA (fun q => ?_)
  refine z_astore dL_copies_68 (by decide) rfl ?_
  refine z_bi kb_m20 dL_copies_70 ?_
  refine z_ireturn dL_copies_72 rfl (by first | rfl | exact bI_nar _) ?_
  exact ⟨by rw [tl_1 hcs], hQ56⟩
theorem h_audit (hI : INV B σ) (hB : B < 2147483648) (h : WA g A0 σ ar M) (p0 p1 p2 : Int32) : con g mL_copies 1 6 [.ref (A0 0 0), .int (nI 4), .int p0, .int p1, .int p2] M (rQ (some (.int (tl (o_audit σ p0) (-20) (-10) (-10)))) (MA g A0 B (o_audit σ p0) ar)) := by
  refine con_h ?_ (by decide) rfl rfl (by simp [lv_args, Value.category]) (by simp [lv_args, lnd, Value.category])
  obtain ⟨fs, hA⟩ := WA_hall h
  have k := a_audit g hI hB h p0
  have hoc := oc_audit σ p0
  refine z_iload_n dL_copies_0 rfl ?_
  refine z_if_ne (tgt := 12) dL_copies_1 (by decide) (fun h1 => ?_) (fun h1 => absurd h1 (by decide))
  refine z_iload_n dL_copies_12 rfl ?_
  refine z_ic ki_1 dL_copies_13 ?_
  refine z_icmp_ne (tgt := 25) dL_copies_14 (by decide) (fun h14 => ?_) (fun h14 => absurd h14 (by decide))
  refine z_iload_n dL_copies_25 rfl ?_
  refine z_ic ki_2 dL_copies_26 ?_
  refine z_icmp_ne (tgt := 49) dL_copies_27 (by decide) (fun h27 => ?_) (fun h27 => absurd h27 (by decide))
  refine z_iload_n dL_copies_49 rfl ?_
  refine z_ic ki_3 dL_copies_50 ?_
  refine z_icmp_ne (tgt := 62) dL_copies_51 (by decide) (fun h51 => ?_) (fun h51 => absurd h51 (by decide))
  refine z_aload_n dL_copies_62 rfl rfl ?_
  refine z_iload_n dL_copies_63 rfl ?_
  refine z_ivO dL_copies_64 cv_RL_71 hA k ⟨⟨by decide, by decide⟩, Nat.le_refl _, Nat.le_refl _⟩ rfl rfl (Nat.le_of_ble_eq_true rfl) (fun M64 hQ64 h064 => ?_) (fun M64 hQ64 h064 => ?_)
  refine z_ireturn dL_copies_67 rfl (by first | rfl | exact bI_nar _) ?_
  exact ⟨by rw [tl_0 h064], hQ64⟩
  have hcs : (o_audit σ p0).1 = 1 ∨ (o_audit σ p0).1 = 2 := by omega
  rcases hcs with hcs | hcs
  · rw [hcs]
    refine x_catch (E := xIA) [] (0, 67, 68, 28) [(0, 67, 73, 30), (0, 67, 78, 32)] rfl (fun z hz => (List.not_mem_nil hz).elim) ⟨by decide, by decide⟩ (by decide) cl_28 cst_xIA (fun q => ?_)
    refine z_astore dL_copies_68 (by decide) rfl ?_
    refine z_bi kb_m20 dL_copies_70 ?_
    refine z_ireturn dL_copies_72 rfl (by first | rfl | exact bI_nar _) ?_
    exact ⟨by rw [tl_1 hcs], hQ64⟩
  · rw [hcs]
    refine x_catch (E := xIS) [(0, 67, 68, 28), (0, 67, 73, 30)] (0, 67, 78, 32) [] rfl (fun z hz => (List.mem_cons.mp hz).elim (fun q => by rw [q]; exact ⟨xIA, by decide, cl_28, List.mem_of_getElem? (i := 2) rfl⟩) (fun q => by rw [List.mem_singleton.mp q]; exact ⟨xIO, by decide, cl_30, List.mem_of_getElem? (i := 3) rfl⟩)) ⟨by decide, by decide⟩ (by decide) cl_32 cst_xIS (fun q => ?_)
    refine z_astore dL_copies_78 (by decide) rfl ?_
    refine z_bi kb_m10 dL_copies_80 ?_
    refine z_ireturn dL_copies_82 rfl (by first | rfl | exact bI_nar _) ?_
    exact ⟨by rw [tl_2 hcs], hQ64⟩
theorem h_read (hI : INV B σ)  (h : WA g A0 σ ar M) (p0 p1 : Int32) : con g mL_reads 3 18 [.ref (A0 0 0), .int p0, .int p1] M (rQ (some (.int (tl (o_read σ p0 p1) (-100000030) (-100000010) (-100000010)))) (WA g A0 σ ar)) := by
  refine con_h ?_ (by decide) rfl rfl (by simp [lv_args, Value.category]) (by simp [lv_args, lnd, Value.category])
  obtain ⟨fs, hA⟩ := WA_hall h
  have k := a_read g hI h p0 p1
  have hoc := oc_read σ p0 p1
  refine z_aload_n dL_reads_0 rfl rfl ?_
  refine z_iload_n dL_reads_1 rfl ?_
  refine z_iload_n dL_reads_2 rfl ?_
  refine z_ivO dL_reads_3 cv_RL_53 hA k ⟨⟨by decide, by decide⟩, Nat.le_refl _, Nat.le_refl _⟩ rfl rfl (Nat.le_of_ble_eq_true rfl) (fun M3 hQ3 h03 => ?_) (fun M3 hQ3 h03 => ?_)
  refine z_ireturn dL_reads_6 rfl (by first | rfl | exact bI_nar _) ?_
  exact ⟨by rw [tl_0 h03], hQ3⟩
  have hcs : (o_read σ p0 p1).1 = 1 ∨ (o_read σ p0 p1).1 = 2 := by omega
  rcases hcs with hcs | hcs
  · rw [hcs]
    refine x_catch (E := xIO) [] (0, 6, 7, 30) [(0, 6, 11, 32)] rfl (fun z hz => (List.not_mem_nil hz).elim) ⟨by decide, by decide⟩ (by decide) cl_30 cst_xIO (fun q => ?_)
    refine z_astore_n dL_reads_7 (by decide) rfl ?_
    refine z_ldc dL_reads_8 lc_RL_56 ?_
    refine z_ireturn dL_reads_10 rfl (by first | rfl | exact bI_nar _) ?_
    exact ⟨by rw [tl_1 hcs], hQ3⟩
  · rw [hcs]
    refine x_catch (E := xIS) [(0, 6, 7, 30)] (0, 6, 11, 32) [] rfl (fun z hz => by rw [List.mem_singleton.mp hz]; exact ⟨xIO, by decide, cl_30, List.mem_of_getElem? (i := 3) rfl⟩) ⟨by decide, by decide⟩ (by decide) cl_32 cst_xIS (fun q => ?_)
    refine z_astore_n dL_reads_11 (by decide) rfl ?_
    refine z_ldc dL_reads_12 lc_RL_57 ?_
    refine z_ireturn dL_reads_14 rfl (by first | rfl | exact bI_nar _) ?_
    exact ⟨by rw [tl_2 hcs], hQ3⟩
theorem h_auditW (hI : INV B σ) (hB : B < 2147483648) (h : WA g A0 σ ar M) (p0 p1 p2 : Int32) : con g mL_copies 1 6 [.ref (A0 0 0), .int (nI 4), .int p0, .int p1, .int p2] M (rQ (some (.int (tl (o_audit σ p0) (-20) (-10) (-10)))) (WA g A0 (o_audit σ p0).2.2 ar)) := by
  refine con_h ?_ (by decide) rfl rfl (by simp [lv_args, Value.category]) (by simp [lv_args, lnd, Value.category])
  obtain ⟨fs, hA⟩ := WA_hall h
  have k := a_auditW g hI hB h p0
  have hoc := oc_audit σ p0
  refine z_iload_n dL_copies_0 rfl ?_
  refine z_if_ne (tgt := 12) dL_copies_1 (by decide) (fun h1 => ?_) (fun h1 => absurd h1 (by decide))
  refine z_iload_n dL_copies_12 rfl ?_
  refine z_ic ki_1 dL_copies_13 ?_
  refine z_icmp_ne (tgt := 25) dL_copies_14 (by decide) (fun h14 => ?_) (fun h14 => absurd h14 (by decide))
  refine z_iload_n dL_copies_25 rfl ?_
  refine z_ic ki_2 dL_copies_26 ?_
  refine z_icmp_ne (tgt := 49) dL_copies_27 (by decide) (fun h27 => ?_) (fun h27 => absurd h27 (by decide))
  refine z_iload_n dL_copies_49 rfl ?_
  refine z_ic ki_3 dL_copies_50 ?_
  refine z_icmp_ne (tgt := 62) dL_copies_51 (by decide) (fun h51 => ?_) (fun h51 => absurd h51 (by decide))
  refine z_aload_n dL_copies_62 rfl rfl ?_
  refine z_iload_n dL_copies_63 rfl ?_
  refine z_ivO dL_copies_64 cv_RL_71 hA k ⟨⟨by decide, by decide⟩, Nat.le_refl _, Nat.le_refl _⟩ rfl rfl (Nat.le_of_ble_eq_true rfl) (fun M64 hQ64 h064 => ?_) (fun M64 hQ64 h064 => ?_)
  refine z_ireturn dL_copies_67 rfl (by first | rfl | exact bI_nar _) ?_
  exact ⟨by rw [tl_0 h064], hQ64⟩
  have hcs : (o_audit σ p0).1 = 1 ∨ (o_audit σ p0).1 = 2 := by omega
  rcases hcs with hcs | hcs
  · rw [hcs]
    refine x_catch (E := xIA) [] (0, 67, 68, 28) [(0, 67, 73, 30), (0, 67, 78, 32)] rfl (fun z hz => (List.not_mem_nil hz).elim) ⟨by decide, by decide⟩ (by decide) cl_28 cst_xIA (fun q => ?_)
    refine z_astore dL_copies_68 (by decide) rfl ?_
    refine z_bi kb_m20 dL_copies_70 ?_
    refine z_ireturn dL_copies_72 rfl (by first | rfl | exact bI_nar _) ?_
    exact ⟨by rw [tl_1 hcs], hQ64⟩
  · rw [hcs]
    refine x_catch (E := xIS) [(0, 67, 68, 28), (0, 67, 73, 30)] (0, 67, 78, 32) [] rfl (fun z hz => (List.mem_cons.mp hz).elim (fun q => by rw [q]; exact ⟨xIA, by decide, cl_28, List.mem_of_getElem? (i := 2) rfl⟩) (fun q => by rw [List.mem_singleton.mp q]; exact ⟨xIO, by decide, cl_30, List.mem_of_getElem? (i := 3) rfl⟩)) ⟨by decide, by decide⟩ (by decide) cl_32 cst_xIS (fun q => ?_)
    refine z_astore dL_copies_78 (by decide) rfl ?_
    refine z_bi kb_m10 dL_copies_80 ?_
    refine z_ireturn dL_copies_82 rfl (by first | rfl | exact bI_nar _) ?_
    exact ⟨by rw [tl_2 hcs], hQ64⟩
end HELP
