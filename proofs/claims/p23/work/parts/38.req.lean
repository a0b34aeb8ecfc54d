/-! the class: what its calls require -/
/-- answers v, or throws E -/
def rB (c : Bool) (v : Option Value) (E : String) (M1 : Mem) : PO := fun r M' => M' = M1 ∧ ((c = true ∧ r = .inl v) ∨ (c = false ∧ r = .inr E))
theorem rB_y {c : Bool} {v : Option Value} {E : String} {M : Mem} (h : c = true) : rB c v E M (.inl v) M := ⟨rfl, Or.inl ⟨h, rfl⟩⟩
theorem rB_n {c : Bool} {v : Option Value} {E : String} {M : Mem} (h : c = false) : rB c v E M (.inr E) M := ⟨rfl, Or.inr ⟨h, rfl⟩⟩
section RB
variable {g : GG} {d : MD} {bk bn : Nat} {P : PO} {M : Mem} {pc : Nat} {ls : List (Nat × Value)} {st : List Value}
theorem z_isB {index n bk1 bn1 : Nat} {dd : MD} {as rest : List Value} {c : Bool} {v : Option Value} {E : String} (hd : decode d.cc pc = .ok (.invokestatic index, 3)) (hv : slk d.y.cls index dd n) (hcon : con g dd bk1 bn1 as M (rB c v E M)) (hC : clk d dd bk1 bn1 bk bn) (hn : as.length = n) (hst : st = as.reverse ++ rest) (hw : (rest.map fun v => v.category).sum ≤ 8) (hh : d.hh = [])
    (kk : c = true → tri g d (bk - bk1) (bn - bn1) P M (pc + 3) ls (v.toList ++ rest)) (kx : c = false → P (.inr E) M) : tri g d bk bn P M pc ls st := by
  refine z_invokestatic hd hv hcon hC hn hst hw (fun v' M' h => ?_) (fun E' M' h => ?_)
  · obtain ⟨rfl, h | h⟩ := h
    · obtain ⟨h1, h2⟩ := h
      cases h2
      exact kk h1
    · cases h.2
  · obtain ⟨rfl, h | h⟩ := h
    · cases h.2
    · obtain ⟨h1, h2⟩ := h
      cases h2
      exact x_out hh (kx h1)
theorem z_ivB {index ci n a bk1 bn1 : Nat} {dd : MD} {fs as rest : List Value} {c : Bool} {v : Option Value} {E : String} (hd : decode d.cc pc = .ok (.invokevirtual index, 3)) (hv : vlk d.y.cls index ci dd n) (hM : M a = some (ob ci fs)) (hcon : con g dd bk1 bn1 (.ref a :: as) M (rB c v E M)) (hC : clk d dd bk1 bn1 bk bn) (hn : as.length = n) (hst : st = as.reverse ++ .ref a :: rest) (hw : (rest.map fun v => v.category).sum ≤ 8) (hh : d.hh = [])
    (kk : c = true → tri g d (bk - bk1) (bn - bn1) P M (pc + 3) ls (v.toList ++ rest)) (kx : c = false → P (.inr E) M) : tri g d bk bn P M pc ls st := by
  refine z_invokevirtual hd hv hM hcon hC hn hst hw (fun v' M' h => ?_) (fun E' M' h => ?_)
  · obtain ⟨rfl, h | h⟩ := h
    · obtain ⟨h1, h2⟩ := h
      cases h2
      exact kk h1
    · cases h.2
  · obtain ⟨rfl, h | h⟩ := h
    · cases h.2
    · obtain ⟨h1, h2⟩ := h
      cases h2
      exact x_out hh (kx h1)
end RB
theorem nf {b : Bool} (h : bI b = 0) : b = false := bI_eq0.mp h
section REQ
variable (g : GG) {A : Nat → Nat → Nat} {σ ρ : ST} {x : XT} {M : Mem}
theorem c_X5_requireRisk (r : Int32) : con g mX5_requireRisk 1 6 [.int r] M (rB (inK 0 100 r) none xIA M) := by
  refine con_i ?_ (by decide) rfl rfl (by simp [lv_args, Value.category]) (by simp [lv_args, lnd, Value.category])
  refine z_iload_n dX5_requireRisk_0 rfl ?_
  refine z_ic ki_0 dX5_requireRisk_1 ?_
  refine z_bi kb_100 dX5_requireRisk_2 ?_
  refine z_isI dX5_requireRisk_4 cs_RX5_56 (c_X5_isWithin g M _ _ _) ⟨⟨by decide, by decide⟩, (by first | exact Nat.zero_le _ | decide | omega), (by first | exact Nat.zero_le _ | decide | omega)⟩ rfl rfl (Nat.le_of_ble_eq_true rfl) ?_
  refine z_if_ne (tgt := 20) dX5_requireRisk_7 (by decide) (fun h7 => ?_) (fun h7 => ?_)
  · refine z_return dX5_requireRisk_20 rfl ?_
    exact rB_y (yt h7)
  · exact z_throw (thk_IA (is := 226) (text := "risk out of range") (List.mem_of_getElem? (i := 12) rfl)) dX5_requireRisk_10 dX5_requireRisk_13 dX5_requireRisk_14 dX5_requireRisk_16 dX5_requireRisk_19 rfl ⟨by decide, by decide, by first | decide | omega, by first | decide | omega⟩ (Nat.le_of_ble_eq_true rfl) (rB_n (nf h7))
theorem c_X5_requireContent (r : Int32) : con g mX5_requireContent 1 6 [.int r] M (rB (inC r) none xIA M) := by
  refine con_i ?_ (by decide) rfl rfl (by simp [lv_args, Value.category]) (by simp [lv_args, lnd, Value.category])
  refine z_iload_n dX5_requireContent_0 rfl ?_
  refine z_ic ki_0 dX5_requireContent_1 ?_
  refine z_ldc dX5_requireContent_2 lc_RX5_228 ?_
  refine z_isI dX5_requireContent_4 cs_RX5_56 (c_X5_isWithin g M _ _ _) ⟨⟨by decide, by decide⟩, (by first | exact Nat.zero_le _ | decide | omega), (by first | exact Nat.zero_le _ | decide | omega)⟩ rfl rfl (Nat.le_of_ble_eq_true rfl) ?_
  refine z_if_ne (tgt := 20) dX5_requireContent_7 (by decide) (fun h7 => ?_) (fun h7 => ?_)
  · refine z_return dX5_requireContent_20 rfl ?_
    exact rB_y (yt h7)
  · exact z_throw (thk_IA (is := 229) (text := "content out of range") (List.mem_of_getElem? (i := 13) rfl)) dX5_requireContent_10 dX5_requireContent_13 dX5_requireContent_14 dX5_requireContent_16 dX5_requireContent_19 rfl ⟨by decide, by decide, by first | decide | omega, by first | decide | omega⟩ (Nat.le_of_ble_eq_true rfl) (rB_n (nf h7))
theorem c_X5_requireSite (r : Int32) : con g mX5_requireSite 1 6 [.int r] M (rB (inK 0 3 r) none xIA M) := by
  refine con_i ?_ (by decide) rfl rfl (by simp [lv_args, Value.category]) (by simp [lv_args, lnd, Value.category])
  refine z_iload_n dX5_requireSite_0 rfl ?_
  refine z_ic ki_0 dX5_requireSite_1 ?_
  refine z_ic ki_3 dX5_requireSite_2 ?_
  refine z_isI dX5_requireSite_3 cs_RX5_56 (c_X5_isWithin g M _ _ _) ⟨⟨by decide, by decide⟩, (by first | exact Nat.zero_le _ | decide | omega), (by first | exact Nat.zero_le _ | decide | omega)⟩ rfl rfl (Nat.le_of_ble_eq_true rfl) ?_
  refine z_if_ne (tgt := 19) dX5_requireSite_6 (by decide) (fun h6 => ?_) (fun h6 => ?_)
  · refine z_return dX5_requireSite_19 rfl ?_
    exact rB_y (yt h6)
  · exact z_throw (thk_IA (is := 231) (text := "site out of range") (List.mem_of_getElem? (i := 14) rfl)) dX5_requireSite_9 dX5_requireSite_12 dX5_requireSite_13 dX5_requireSite_15 dX5_requireSite_18 rfl ⟨by decide, by decide, by first | decide | omega, by first | decide | omega⟩ (Nat.le_of_ble_eq_true rfl) (rB_n (nf h6))
theorem c_X5_requireFormat (hW : W2 g A σ ρ x M) (hf : σ.fo ≤ 8) (f : Int32) : con g mX5_requireFormat 1 6 [.ref (A 0 0), .int f] M (rB (inR σ.fo f) none xIO M) := by
  refine con_i ?_ (by decide) rfl rfl (by simp [lv_args, Value.category]) (by simp [lv_args, lnd, Value.category])
  have hA := hW.hall
  refine z_aload_n dX5_requireFormat_0 rfl rfl ?_
  refine z_getfield dX5_requireFormat_1 fg_RX5_10 (by assumption) rfl ?_
  refine z_iload_n dX5_requireFormat_4 rfl ?_
  refine z_ivI dX5_requireFormat_5 cv_RX5_233 hW.fmts (c_X1_has g hW hf f) ⟨⟨by decide, by decide⟩, (by first | exact Nat.zero_le _ | decide | omega), (by first | exact Nat.zero_le _ | decide | omega)⟩ rfl rfl (Nat.le_of_ble_eq_true rfl) ?_
  refine z_if_ne (tgt := 21) dX5_requireFormat_8 (by decide) (fun h8 => ?_) (fun h8 => ?_)
  · refine z_return dX5_requireFormat_21 rfl ?_
    exact rB_y (yt h8)
  · exact z_throw (thk_IO (is := 236) (text := "no such format") (List.mem_of_getElem? (i := 15) rfl)) dX5_requireFormat_11 dX5_requireFormat_14 dX5_requireFormat_15 dX5_requireFormat_17 dX5_requireFormat_20 rfl ⟨by decide, by decide, by first | decide | omega, by first | decide | omega⟩ (Nat.le_of_ble_eq_true rfl) (rB_n (nf h8))
theorem c_X5_requireRoom (hW : W2 g A σ ρ x M) (hw : WF σ) {o : Nat} (ho : o < σ.ob) : con g mX5_requireRoomForVersion 1 6 [.ref (A 16 o)] M (rB (!decide (σ.a 1 o = 10)) none xIS M) := by
  refine con_i ?_ (by decide) rfl rfl (by simp [lv_args, Value.category]) (by simp [lv_args, lnd, Value.category])
  refine z_aload_n dX5_requireRoomForVersion_0 rfl rfl ?_
  refine z_ivI dX5_requireRoomForVersion_1 cv_RX5_238 (hW.dob ho) (c_X0_isFull g hW hw ho) ⟨⟨by decide, by decide⟩, (by first | exact Nat.zero_le _ | decide | omega), (by first | exact Nat.zero_le _ | decide | omega)⟩ rfl rfl (Nat.le_of_ble_eq_true rfl) ?_
  refine z_if_eq (tgt := 17) dX5_requireRoomForVersion_4 (by decide) (fun h4 => ?_) (fun h4 => ?_)
  · refine z_return dX5_requireRoomForVersion_17 rfl ?_
    exact rB_y (by rw [nf h4]; rfl)
  · exact z_throw (thk_IS (is := 239) (text := "no room for another version") (List.mem_of_getElem? (i := 16) rfl)) dX5_requireRoomForVersion_7 dX5_requireRoomForVersion_10 dX5_requireRoomForVersion_11 dX5_requireRoomForVersion_13 dX5_requireRoomForVersion_16 rfl ⟨by decide, by decide, by first | decide | omega, by first | decide | omega⟩ (Nat.le_of_ble_eq_true rfl) (rB_n (by rw [yt h4]; rfl))
theorem c_X5_requireReadable (hW : W2 g A σ ρ x M) (hw : WF σ) {v : Nat} (hv : vok σ v) : con g mX5_requireReadable 1 6 [.ref (A 19 v)] M (rB (allG σ (chL σ v)) none xIS M) := by
  refine con_i ?_ (by decide) rfl rfl (by simp [lv_args, Value.category]) (by simp [lv_args, lnd, Value.category])
  refine z_aload_n dX5_requireReadable_0 rfl rfl ?_
  refine z_ivI dX5_requireReadable_1 cv_RX5_241 (hW.ver hv) (c_X4_isReadable g hW hw hv) ⟨⟨by decide, by decide⟩, (by first | exact Nat.zero_le _ | decide | omega), (by first | exact Nat.zero_le _ | decide | omega)⟩ rfl rfl (Nat.le_of_ble_eq_true rfl) ?_
  refine z_if_ne (tgt := 17) dX5_requireReadable_4 (by decide) (fun h4 => ?_) (fun h4 => ?_)
  · refine z_return dX5_requireReadable_17 rfl ?_
    exact rB_y (yt h4)
  · exact z_throw (thk_IS (is := 244) (text := "a unit has no good value") (List.mem_of_getElem? (i := 17) rfl)) dX5_requireReadable_7 dX5_requireReadable_10 dX5_requireReadable_11 dX5_requireReadable_13 dX5_requireReadable_16 rfl ⟨by decide, by decide, by first | decide | omega, by first | decide | omega⟩ (Nat.le_of_ble_eq_true rfl) (rB_n (nf h4))
theorem c_X5_objectAt (hW : W2 g A σ ρ x M) (hw : WF σ) (hC : CAP σ) (o : Int32) : con g mX5_objectAt 1 6 [.ref (A 0 0), .int o] M (rB (inR σ.ob o) (some (.ref (A 16 (tN o)))) xIO M) := by
  refine con_i ?_ (by decide) rfl rfl (by simp [lv_args, Value.category]) (by simp [lv_args, lnd, Value.category])
  have hA := hW.hall
  have h10 := hw.1.1
  refine z_iload_n dX5_objectAt_0 rfl ?_
  refine z_if_lt (tgt := 15) dX5_objectAt_1 (by decide) (fun h1 => ?_) (fun h1 => ?_)
  · exact z_throw (thk_IO (is := 246) (text := "no such object") (List.mem_of_getElem? (i := 18) rfl)) dX5_objectAt_15 dX5_objectAt_18 dX5_objectAt_19 dX5_objectAt_21 dX5_objectAt_24 rfl ⟨by decide, by decide, by first | decide | omega, by first | decide | omega⟩ (Nat.le_of_ble_eq_true rfl) (rB_n (Bool.eq_false_iff.mpr fun q => ((inR_iff (by omega)).mp q).1 h1))
  · refine z_iload_n dX5_objectAt_4 rfl ?_
    refine z_aload_n dX5_objectAt_5 rfl rfl ?_
    refine z_getfield dX5_objectAt_6 fg_RX5_26 (by assumption) rfl ?_
    refine z_ivI dX5_objectAt_9 cv_RX5_82 hW.olst (c_ol_size hW) ⟨⟨by decide, by decide⟩, (by first | exact Nat.zero_le _ | decide | omega), (by first | exact Nat.zero_le _ | decide | omega)⟩ rfl rfl (Nat.le_of_ble_eq_true rfl) ?_
    refine z_icmp_lt (tgt := 25) dX5_objectAt_12 (by decide) (fun h12 => ?_) (fun h12 => ?_)
    · have hin : inR σ.ob o = true := (inR_iff (by omega)).mpr ⟨h1, h12⟩
      obtain ⟨eo, lo⟩ := inR_of (by omega) hin
      have hg := c_ol_get hW hC lo
      rw [← eo] at hg
      refine z_aload_n dX5_objectAt_25 rfl rfl ?_
      refine z_getfield dX5_objectAt_26 fg_RX5_26 (by assumption) rfl ?_
      refine z_iload_n dX5_objectAt_29 rfl ?_
      refine z_ivA dX5_objectAt_30 cv_RX5_166 hW.olst (hg) ⟨⟨by decide, by decide⟩, (by first | exact Nat.zero_le _ | decide | omega), (by first | exact Nat.zero_le _ | decide | omega)⟩ rfl rfl (Nat.le_of_ble_eq_true rfl) ?_
      refine z_cast dX5_objectAt_33 (hW.dob lo) rfl (gt_in 398 (by decide +kernel) rfl) ?_
      refine z_areturn dX5_objectAt_36 rfl rfl (by first | exact Or.inl ⟨_, rfl⟩ | exact Or.inr ⟨_, rfl⟩) ?_
      exact rB_y hin
    · exact z_throw (thk_IO (is := 246) (text := "no such object") (List.mem_of_getElem? (i := 18) rfl)) dX5_objectAt_15 dX5_objectAt_18 dX5_objectAt_19 dX5_objectAt_21 dX5_objectAt_24 rfl ⟨by decide, by decide, by first | decide | omega, by first | decide | omega⟩ (Nat.le_of_ble_eq_true rfl) (rB_n (Bool.eq_false_iff.mpr fun q => h12 ((inR_iff (by omega)).mp q).2))
theorem c_X5_versionAt (hW : W2 g A σ ρ x M) (hw : WF σ) (hC : CAP σ) {o : Nat} (ho : o < σ.ob) (v : Int32) : con g mX5_versionAt 1 6 [.ref (A 16 o), .int v] M (rB (inR 10 v && σ.b 0 (10 * o + tN v)) (some (.ref (A 19 (10 * o + tN v)))) xIO M) := by
  refine con_i ?_ (by decide) rfl rfl (by simp [lv_args, Value.category]) (by simp [lv_args, lnd, Value.category])
  have hfi := c_X0_find g hW hw hC ho v
  cases hb : (inR 10 v && σ.b 0 (10 * o + tN v)) with
  | true =>
    rw [show fnV A σ o v = .ref (A 19 (10 * o + tN v)) by unfold fnV; rw [if_pos hb]] at hfi
    refine z_aload_n dX5_versionAt_0 rfl rfl ?_
    refine z_iload_n dX5_versionAt_1 rfl ?_
    refine z_ivA dX5_versionAt_2 cv_RX5_248 (hW.dob ho) (hfi) ⟨⟨by decide, by decide⟩, (by first | exact Nat.zero_le _ | decide | omega), (by first | exact Nat.zero_le _ | decide | omega)⟩ rfl rfl (Nat.le_of_ble_eq_true rfl) ?_
    refine z_astore_n dX5_versionAt_5 (by decide) rfl ?_
    refine z_aload_n dX5_versionAt_6 rfl rfl ?_
    refine z_ifnonnull (tgt := 20) rfl dX5_versionAt_7 (by decide) (fun h7 => ?_) (fun h7 => ?_)
    · refine z_aload_n dX5_versionAt_20 rfl rfl ?_
      refine z_areturn dX5_versionAt_21 rfl rfl (by first | exact Or.inl ⟨_, rfl⟩ | exact Or.inr ⟨_, rfl⟩) ?_
      exact rB_y rfl
    · cases h7
  | false =>
    rw [show fnV A σ o v = .null by unfold fnV; rw [if_neg (by rw [hb]; decide)]] at hfi
    refine z_aload_n dX5_versionAt_0 rfl rfl ?_
    refine z_iload_n dX5_versionAt_1 rfl ?_
    refine z_ivA dX5_versionAt_2 cv_RX5_248 (hW.dob ho) (hfi) ⟨⟨by decide, by decide⟩, (by first | exact Nat.zero_le _ | decide | omega), (by first | exact Nat.zero_le _ | decide | omega)⟩ rfl rfl (Nat.le_of_ble_eq_true rfl) ?_
    refine z_astore_n dX5_versionAt_5 (by decide) rfl ?_
    refine z_aload_n dX5_versionAt_6 rfl rfl ?_
    refine z_ifnonnull (tgt := 20) rfl dX5_versionAt_7 (by decide) (fun h7 => ?_) (fun h7 => ?_)
    · exact absurd rfl h7
    · exact z_throw (thk_IO (is := 252) (text := "no such version") (List.mem_of_getElem? (i := 19) rfl)) dX5_versionAt_10 dX5_versionAt_13 dX5_versionAt_14 dX5_versionAt_16 dX5_versionAt_19 rfl ⟨by decide, by decide, by first | decide | omega, by first | decide | omega⟩ (Nat.le_of_ble_eq_true rfl) (rB_n rfl)
end REQ
