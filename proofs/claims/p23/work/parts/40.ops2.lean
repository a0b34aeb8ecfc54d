/-! the class: conversions, risks, damage, sites, audits, replication -/
theorem inK_100 {l : Int32} (h : inK 0 100 l = true) : l = nI (tN l) ∧ tN l ≤ 100 := by
  have h1 : nI 0 ≤ l ∧ l ≤ nI 100 := of_decide_eq_true h
  obtain ⟨e, k⟩ := inR_of (n := 101) (f := l) (by decide) (decide_eq_true ⟨h1.1, by rw [show nI 101 - 1 = nI 100 by decide]; exact h1.2⟩)
  exact ⟨e, by omega⟩
theorem inK_3 {l : Int32} (h : inK 0 3 l = true) : l = nI (tN l) ∧ tN l < 4 := by
  have h1 : nI 0 ≤ l ∧ l ≤ nI 3 := of_decide_eq_true h
  exact inR_of (n := 4) (f := l) (by decide) (decide_eq_true ⟨h1.1, by rw [show nI 4 - 1 = nI 3 by decide]; exact h1.2⟩)
theorem LI.sl {σ : ST} (h : LI σ) {a b l : Nat} (ha : a < σ.fo) (hb : b < σ.fo) (hl : l ≤ 100) : LI (σ.sl a b (nI l)) := by
  refine ⟨h.1, fun i j hi hj => ?_⟩
  show f2 σ.lo a b (nI l) i j = -1 ∨ (i < σ.fo ∧ j < σ.fo ∧ ∃ l', l' ≤ 100 ∧ f2 σ.lo a b (nI l) i j = nI l')
  by_cases hq : i = a ∧ j = b
  · rw [hq.1, hq.2, f2_s]
    exact Or.inr ⟨ha, hb, l, hl, rfl⟩
  · rw [f2_n hq]
    exact h.2 i j hi hj
/-- what toggleSite leaves in the class -/
def tgS (σ : ST) (s : Int32) : ST := if inK 0 3 s = true then dcS (tN s) σ.un (σ.sb 4 (tN s) (!σ.b 4 (tN s))) else σ
section OPS2
variable (g : GG) {A : Nat → Nat → Nat} {σ ρ : ST} {x : XT} {M : Mem}
theorem c_X5_addConversion (hW : W2 g A σ ρ x M) (hL : LI σ) (a b l : Int32) : con g mX5_addConversion 3 18 [.ref (A 0 0), .int a, .int b, .int l] M (rO (o_addConversion σ a b l) (eX xIA xIO xIO) (fun M' => ∃ f, W2 g A (o_addConversion σ a b l).2.2 ρ (x.srch f) M')) := by
  refine con_i ?_ (by decide) rfl rfl (by simp [lv_args, Value.category]) (by simp [lv_args, lnd, Value.category])
  have hA := hW.hall
  have hf := hL.1
  have e1 : ¬ (inK 0 100 l = true ∧ ¬ a = b) → o_addConversion σ a b l = (1, nI 0, σ) := fun h => by unfold o_addConversion; rw [if_neg h]
  have e2 : (inK 0 100 l = true ∧ ¬ a = b) → ¬ (inR σ.fo a = true ∧ inR σ.fo b = true) → o_addConversion σ a b l = (2, nI 0, σ) := fun h h' => by unfold o_addConversion; rw [if_pos h, if_neg h']
  refine z_iload_n dX5_addConversion_0 rfl ?_
  refine z_ic ki_0 dX5_addConversion_1 ?_
  refine z_bi kb_100 dX5_addConversion_2 ?_
  refine z_isI dX5_addConversion_4 cs_RX5_56 (c_X5_isWithin g M _ _ _) ⟨⟨by decide, by decide⟩, (by first | exact Nat.zero_le _ | decide | omega), (by first | exact Nat.zero_le _ | decide | omega)⟩ rfl rfl (Nat.le_of_ble_eq_true rfl) ?_
  refine z_if_ne (tgt := 20) dX5_addConversion_7 (by decide) (fun h7 => ?_) (fun h7 => ?_)
  · refine z_iload_n dX5_addConversion_20 rfl ?_
    refine z_iload_n dX5_addConversion_21 rfl ?_
    refine z_icmp_ne (tgt := 35) dX5_addConversion_22 (by decide) (fun h22 => ?_) (fun h22 => ?_)
    · refine z_aload_n dX5_addConversion_35 rfl rfl ?_
      refine z_iload_n dX5_addConversion_36 rfl ?_
      refine z_ivB dX5_addConversion_37 cv_RX5_49 hA (c_X5_requireFormat g hW hf a) ⟨⟨by decide, by decide⟩, (by first | exact Nat.zero_le _ | decide | omega), (by first | exact Nat.zero_le _ | decide | omega)⟩ rfl rfl (Nat.le_of_ble_eq_true rfl) rfl (fun h37 => ?_) (fun h37 => by rw [e2 ⟨yt h7, h22⟩ (fun q => by rw [h37] at q; cases q.1)]; exact rO_n ⟨x.rch, hW⟩ (Nat.succ_ne_zero 1) rfl)
      refine z_aload_n dX5_addConversion_40 rfl rfl ?_
      refine z_iload_n dX5_addConversion_41 rfl ?_
      refine z_ivB dX5_addConversion_42 cv_RX5_49 hA (c_X5_requireFormat g hW hf b) ⟨⟨by decide, by decide⟩, (by first | exact Nat.zero_le _ | decide | omega), (by first | exact Nat.zero_le _ | decide | omega)⟩ rfl rfl (Nat.le_of_ble_eq_true rfl) rfl (fun h42 => ?_) (fun h42 => by rw [e2 ⟨yt h7, h22⟩ (fun q => by rw [h42] at q; cases q.2)]; exact rO_n ⟨x.rch, hW⟩ (Nat.succ_ne_zero 1) rfl)
      obtain ⟨ea, la⟩ := inR_of (by omega) h37
      obtain ⟨eb, lb⟩ := inR_of (by omega) h42
      obtain ⟨el, ll⟩ := inK_100 (yt h7)
      have hcon := c_X1_setConversion g hW hf la lb ll
      rw [← ea, ← eb, ← el] at hcon
      have hL2 := hL.sl la lb ll
      rw [← el] at hL2
      have e : o_addConversion σ a b l = (0, way (σ.sl (tN a) (tN b) l) (tN a) (tN b) / nI 100, σ.sl (tN a) (tN b) l) := by unfold o_addConversion; rw [if_pos ⟨yt h7, h22⟩, if_pos ⟨h37, h42⟩]
      rw [e]
      refine z_aload_n dX5_addConversion_45 rfl rfl ?_
      refine z_getfield dX5_addConversion_46 fg_RX5_10 (by assumption) rfl ?_
      refine z_iload_n dX5_addConversion_49 rfl ?_
      refine z_iload_n dX5_addConversion_50 rfl ?_
      refine z_iload_n dX5_addConversion_51 rfl ?_
      refine z_ivQ dX5_addConversion_52 cv_RX5_67 hW.fmts (hcon) ⟨⟨by decide, by decide⟩, (by first | exact Nat.zero_le _ | decide | omega), (by first | exact Nat.zero_le _ | decide | omega)⟩ rfl rfl (Nat.le_of_ble_eq_true rfl) (fun M52 hQ52 => ?_)
      refine z_aload_n dX5_addConversion_55 rfl rfl ?_
      refine z_getfield dX5_addConversion_56 fg_RX5_10 hQ52.hall rfl ?_
      refine z_iload_n dX5_addConversion_59 rfl ?_
      refine z_iload_n dX5_addConversion_60 rfl ?_
      refine z_ivQ dX5_addConversion_61 cv_RX5_71 hQ52.fmts (c_X1_bestCost g hL2 hQ52 a b) ⟨⟨by decide, by decide⟩, (by first | exact Nat.zero_le _ | decide | omega), (by first | exact Nat.zero_le _ | decide | omega)⟩ rfl rfl (Nat.le_of_ble_eq_true rfl) (fun M61 hQ61 => ?_)
      refine z_isI dX5_addConversion_64 cs_RX5_74 (c_X1_lossOf g _) ⟨⟨by decide, by decide⟩, (by first | exact Nat.zero_le _ | decide | omega), (by first | exact Nat.zero_le _ | decide | omega)⟩ rfl rfl (Nat.le_of_ble_eq_true rfl) ?_
      refine z_ireturn dX5_addConversion_67 rfl (by first | rfl | exact bI_nar _) ?_
      obtain ⟨f, hf'⟩ := hQ61
      have ebc : bstC (σ.sl (tN a) (tN b) l) a b = way (σ.sl (tN a) (tN b) l) (tN a) (tN b) := by unfold bstC; rw [if_pos ⟨(show inR (σ.sl (tN a) (tN b) l).fo a = true from h37), (show inR (σ.sl (tN a) (tN b) l).fo b = true from h42)⟩]
      rw [ebc]
      exact rO_y ⟨f, hf'⟩ rfl rfl
    · rw [e1 (fun q => q.2 h22)]
      exact z_throw (thk_IA (is := 65) (text := "a conversion leads to another format") (List.mem_of_getElem? (i := 2) rfl)) dX5_addConversion_25 dX5_addConversion_28 dX5_addConversion_29 dX5_addConversion_31 dX5_addConversion_34 rfl ⟨by decide, by decide, by first | decide | omega, by first | decide | omega⟩ (Nat.le_of_ble_eq_true rfl) (rO_n ⟨x.rch, hW⟩ (Nat.one_ne_zero) rfl)
  · rw [e1 (fun q => nt h7 q.1)]
    exact z_throw (thk_IA (is := 62) (text := "loss out of range") (List.mem_of_getElem? (i := 1) rfl)) dX5_addConversion_10 dX5_addConversion_13 dX5_addConversion_14 dX5_addConversion_16 dX5_addConversion_19 rfl ⟨by decide, by decide, by first | decide | omega, by first | decide | omega⟩ (Nat.le_of_ble_eq_true rfl) (rO_n ⟨x.rch, hW⟩ (Nat.one_ne_zero) rfl)
theorem c_X5_toggleSite (hW : W2 g A σ ρ x M) (hw : WF σ) (hC : CAP σ) (hL : LD σ) (s : Int32) : con g mX5_toggleSite 1 6 [.ref (A 0 0), .int s] M (rO (o_toggleSite σ s) (eX xIA xIA xIA) (W2 g A (tgS σ s) ρ x)) := by
  refine con_i ?_ (by decide) rfl rfl (by simp [lv_args, Value.category]) (by simp [lv_args, lnd, Value.category])
  have hA := hW.hall
  refine z_iload_n dX5_toggleSite_0 rfl ?_
  refine z_isB dX5_toggleSite_1 cs_RX5_186 (c_X5_requireSite g s) ⟨⟨by decide, by decide⟩, (by first | exact Nat.zero_le _ | decide | omega), (by first | exact Nat.zero_le _ | decide | omega)⟩ rfl rfl (Nat.le_of_ble_eq_true rfl) rfl (fun h1 => ?_) (fun h1 => by unfold o_toggleSite tgS; rw [if_neg (by rw [h1]; decide), if_neg (by rw [h1]; decide)]; exact rO_n hW (Nat.one_ne_zero) rfl)
  obtain ⟨es, ls⟩ := inK_3 h1
  have hcon := c_X2_closeOrOpen g hW hw hC hL ls
  rw [← es] at hcon
  refine z_aload_n dX5_toggleSite_4 rfl rfl ?_
  refine z_getfield dX5_toggleSite_5 fg_RX5_19 (by assumption) rfl ?_
  refine z_iload_n dX5_toggleSite_8 rfl ?_
  refine z_ivQ dX5_toggleSite_9 cv_RX5_207 hW.store (hcon) ⟨⟨by decide, by decide⟩, (by first | exact Nat.zero_le _ | decide | omega), (by first | exact Nat.zero_le _ | decide | omega)⟩ rfl rfl (Nat.le_of_ble_eq_true rfl) (fun M9 hQ9 => ?_)
  refine z_ireturn dX5_toggleSite_12 rfl (by first | rfl | exact bI_nar _) ?_
  unfold o_toggleSite tgS
  rw [if_pos h1, if_pos h1]
  exact rO_y hQ9 rfl rfl
theorem c_X5_replicate {B : Nat} (hW : W2 g A σ ρ x M) (hw : WF σ) (hC : CAP σ) (hN : ND σ) (hL : LD σ) (hH : HB B σ) (hB : B < 2147483648) (h5 : ∀ u, u < σ.un → σ.a 5 u < 2 ^ 30) : con g mX5_replicate 0 0 [.ref (A 0 0)] M (rQ (some (.int (nI (rpN σ σ.un)))) (W2 g A (rpS σ σ.un) ρ x)) := by
  refine con_i ?_ (by decide) rfl rfl (by simp [lv_args, Value.category]) (by simp [lv_args, lnd, Value.category])
  have hA := hW.hall
  refine z_aload_n dX5_replicate_0 rfl rfl ?_
  refine z_getfield dX5_replicate_1 fg_RX5_19 (by assumption) rfl ?_
  refine z_ivQ dX5_replicate_4 cv_RX5_220 hW.store (c_X2_placeAllLacking g hW hw hC hN hL hH hB h5) ⟨⟨by decide, by decide⟩, (by first | exact Nat.zero_le _ | decide | omega), (by first | exact Nat.zero_le _ | decide | omega)⟩ rfl rfl (Nat.le_of_ble_eq_true rfl) (fun M4 hQ4 => ?_)
  refine z_ireturn dX5_replicate_7 rfl (by first | rfl | exact bI_nar _) ?_
  exact rQ_of hQ4
theorem c_X5_damage (hW : W2 g A σ ρ x M) (hw : WF σ) (hC : CAP σ) (hN : ND σ) (s u c : Int32) : con g mX5_damage 3 18 [.ref (A 0 0), .int s, .int u, .int c] M (rO (o_damage σ s u c) (eX xIA xIO xIO) (W2 g A (o_damage σ s u c).2.2 ρ x)) := by
  refine con_i ?_ (by decide) rfl rfl (by simp [lv_args, Value.category]) (by simp [lv_args, lnd, Value.category])
  have hA := hW.hall
  have h100 := hw.1.2
  have e1 : dmOk s u c = false → o_damage σ s u c = (1, nI 0, σ) := fun h => by unfold o_damage; rw [if_neg (by rw [h]; decide)]
  have e2 : dmOk s u c = true → (isU σ u && σ.cp (tN u) (tN s)) = false → o_damage σ s u c = (2, nI 0, σ) := fun h h' => by unfold o_damage; rw [if_pos h, if_neg (by rw [h']; decide)]
  refine z_iload_n dX5_damage_0 rfl ?_
  refine z_isB dX5_damage_1 cs_RX5_186 (c_X5_requireSite g s) ⟨⟨by decide, by decide⟩, (by first | exact Nat.zero_le _ | decide | omega), (by first | exact Nat.zero_le _ | decide | omega)⟩ rfl rfl (Nat.le_of_ble_eq_true rfl) rfl (fun h1 => ?_) (fun h1 => by rw [e1 (by unfold dmOk; rw [h1]; rfl)]; exact rO_n hW (Nat.one_ne_zero) rfl)
  refine z_iload_n dX5_damage_4 rfl ?_
  refine z_if_eq (tgt := 21) dX5_damage_5 (by decide) (fun h5 => ?_) (fun h5 => ?_)
  · rw [e1 (by unfold dmOk; rw [h1, h5]; rfl)]
    exact z_throw (thk_IA (is := 189) (text := "change out of range") (List.mem_of_getElem? (i := 8) rfl)) dX5_damage_21 dX5_damage_24 dX5_damage_25 dX5_damage_27 dX5_damage_30 rfl ⟨by decide, by decide, by first | decide | omega, by first | decide | omega⟩ (Nat.le_of_ble_eq_true rfl) (rO_n hW (Nat.one_ne_zero) rfl)
  · refine z_iload_n dX5_damage_8 rfl ?_
    refine z_si ks_m1000 dX5_damage_9 ?_
    refine z_si ks_1000 dX5_damage_12 ?_
    refine z_isI dX5_damage_15 cs_RX5_56 (c_X5_isWithin g M _ _ _) ⟨⟨by decide, by decide⟩, (by first | exact Nat.zero_le _ | decide | omega), (by first | exact Nat.zero_le _ | decide | omega)⟩ rfl rfl (Nat.le_of_ble_eq_true rfl) ?_
    refine z_if_ne (tgt := 31) dX5_damage_18 (by decide) (fun h18 => ?_) (fun h18 => ?_)
    · have hok : dmOk s u c = true := by unfold dmOk; rw [h1, yt h18, decide_eq_false h5]; rfl
      obtain ⟨es, ls⟩ := inK_3 h1
      refine z_aload_n dX5_damage_31 rfl rfl ?_
      refine z_iload_n dX5_damage_32 rfl ?_
      refine z_ivB dX5_damage_33 cv_RX5_176 hA (c_X5_unitAt g hW hw hC hN u) ⟨⟨by decide, by decide⟩, (by first | exact Nat.zero_le _ | decide | omega), (by first | exact Nat.zero_le _ | decide | omega)⟩ rfl rfl (Nat.le_of_ble_eq_true rfl) rfl (fun h33 => ?_) (fun h33 => by rw [e2 hok (by rw [h33]; rfl)]; exact rO_n hW (Nat.succ_ne_zero 1) rfl)
      have lu : tN u < σ.un := (inR_of (by omega) (by unfold isU at h33; rw [Bool.and_eq_true] at h33; exact h33.1)).2
      have hcp := c_X3_hasCopyAt g hW lu ls
      rw [← es] at hcp
      refine z_astore dX5_damage_36 (by decide) rfl ?_
      refine z_aload dX5_damage_38 rfl rfl ?_
      refine z_iload_n dX5_damage_40 rfl ?_
      refine z_ivI dX5_damage_41 cv_RX5_191 (hW.unit lu) (hcp) ⟨⟨by decide, by decide⟩, (by first | exact Nat.zero_le _ | decide | omega), (by first | exact Nat.zero_le _ | decide | omega)⟩ rfl rfl (Nat.le_of_ble_eq_true rfl) ?_
      refine z_if_ne (tgt := 57) dX5_damage_44 (by decide) (fun h44 => ?_) (fun h44 => ?_)
      · have hch := c_X3_changeAt g hW lu ls (yt h44) c
        rw [← es] at hch
        refine z_aload dX5_damage_57 rfl rfl ?_
        refine z_iload_n dX5_damage_59 rfl ?_
        refine z_iload_n dX5_damage_60 rfl ?_
        refine z_ivQ dX5_damage_61 cv_RX5_200 (hW.unit lu) (hch) ⟨⟨by decide, by decide⟩, (by first | exact Nat.zero_le _ | decide | omega), (by first | exact Nat.zero_le _ | decide | omega)⟩ rfl rfl (Nat.le_of_ble_eq_true rfl) (fun M61 hQ61 => ?_)
        have hsn := c_X3_isSoundAt g hQ61 (u := tN u) lu ls
        rw [← es] at hsn
        refine z_aload dX5_damage_64 rfl rfl ?_
        refine z_iload_n dX5_damage_66 rfl ?_
        refine z_ivI dX5_damage_67 cv_RX5_204 (hQ61.unit (i := tN u) lu) (hsn) ⟨⟨by decide, by decide⟩, (by first | exact Nat.zero_le _ | decide | omega), (by first | exact Nat.zero_le _ | decide | omega)⟩ rfl rfl (Nat.le_of_ble_eq_true rfl) ?_
        refine z_ireturn dX5_damage_70 rfl (by first | rfl | exact bI_nar _) ?_
        have e : o_damage σ s u c = (0, bI (snd (σ.sh (tN u) (tN s) (σ.hs (tN u) (tN s) + c)) (tN u) (tN s)), σ.sh (tN u) (tN s) (σ.hs (tN u) (tN s) + c)) := by unfold o_damage; rw [if_pos hok, if_pos (by rw [h33, yt h44]; rfl)]
        rw [e]
        exact rO_y hQ61 rfl rfl
      · rw [e2 hok (by rw [nf h44, Bool.and_false])]
        exact z_throw (thk_IO (is := 197) (text := "no copy at this site") (List.mem_of_getElem? (i := 9) rfl)) dX5_damage_47 dX5_damage_50 dX5_damage_51 dX5_damage_53 dX5_damage_56 rfl ⟨by decide, by decide, by first | decide | omega, by first | decide | omega⟩ (Nat.le_of_ble_eq_true rfl) (rO_n hW (Nat.succ_ne_zero 1) rfl)
    · rw [e1 (by unfold dmOk; rw [h1, nf h18]; rfl)]
      exact z_throw (thk_IA (is := 189) (text := "change out of range") (List.mem_of_getElem? (i := 8) rfl)) dX5_damage_21 dX5_damage_24 dX5_damage_25 dX5_damage_27 dX5_damage_30 rfl ⟨by decide, by decide, by first | decide | omega, by first | decide | omega⟩ (Nat.le_of_ble_eq_true rfl) (rO_n hW (Nat.one_ne_zero) rfl)
end OPS2
